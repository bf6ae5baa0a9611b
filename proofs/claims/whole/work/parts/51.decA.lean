/-! instructions of the class, first -/
theorem dX0_init_0 : decode cX0_init 0 = .ok (.aload_n 0, 1) := by decide +kernel
theorem dX0_init_1 : decode cX0_init 1 = .ok (.invokespecial 3, 3) := by decide +kernel
theorem dX0_init_4 : decode cX0_init 4 = .ok (.aload_n 0, 1) := by decide +kernel
theorem dX0_init_5 : decode cX0_init 5 = .ok (.aload_n 1, 1) := by decide +kernel
theorem dX0_init_6 : decode cX0_init 6 = .ok (.putfield 9, 3) := by decide +kernel
theorem dX0_init_9 : decode cX0_init 9 = .ok (.aload_n 0, 1) := by decide +kernel
theorem dX0_init_10 : decode cX0_init 10 = .ok (.bipush 8, 2) := by decide +kernel
theorem dX0_init_12 : decode cX0_init 12 = .ok (.newarray .int, 2) := by decide +kernel
theorem dX0_init_14 : decode cX0_init 14 = .ok (.putfield 15, 3) := by decide +kernel
theorem dX0_init_17 : decode cX0_init 17 = .ok (.return_, 1) := by decide +kernel
theorem dX0_about_0 : decode cX0_about 0 = .ok (.aload_n 0, 1) := by decide +kernel
theorem dX0_about_1 : decode cX0_about 1 = .ok (.aload_n 1, 1) := by decide +kernel
theorem dX0_about_2 : decode cX0_about 2 = .ok (.aload_n 1, 1) := by decide +kernel
theorem dX0_about_3 : decode cX0_about 3 = .ok (.getfield 19, 3) := by decide +kernel
theorem dX0_about_6 : decode cX0_about 6 = .ok (.invokevirtual 25, 3) := by decide +kernel
theorem dX0_about_9 : decode cX0_about 9 = .ok (.putfield 29, 3) := by decide +kernel
theorem dX0_about_12 : decode cX0_about 12 = .ok (.aload_n 0, 1) := by decide +kernel
theorem dX0_about_13 : decode cX0_about 13 = .ok (.aload_n 1, 1) := by decide +kernel
theorem dX0_about_14 : decode cX0_about 14 = .ok (.getfield 33, 3) := by decide +kernel
theorem dX0_about_17 : decode cX0_about 17 = .ok (.iconst 1, 1) := by decide +kernel
theorem dX0_about_18 : decode cX0_about 18 = .ok (.iaload, 1) := by decide +kernel
theorem dX0_about_19 : decode cX0_about 19 = .ok (.putfield 36, 3) := by decide +kernel
theorem dX0_about_22 : decode cX0_about 22 = .ok (.aload_n 0, 1) := by decide +kernel
theorem dX0_about_23 : decode cX0_about 23 = .ok (.getfield 15, 3) := by decide +kernel
theorem dX0_about_26 : decode cX0_about 26 = .ok (.iconst 0, 1) := by decide +kernel
theorem dX0_about_27 : decode cX0_about 27 = .ok (.iload_n 2, 1) := by decide +kernel
theorem dX0_about_28 : decode cX0_about 28 = .ok (.iastore, 1) := by decide +kernel
theorem dX0_about_29 : decode cX0_about 29 = .ok (.aload_n 0, 1) := by decide +kernel
theorem dX0_about_30 : decode cX0_about 30 = .ok (.getfield 15, 3) := by decide +kernel
theorem dX0_about_33 : decode cX0_about 33 = .ok (.iconst 1, 1) := by decide +kernel
theorem dX0_about_34 : decode cX0_about 34 = .ok (.aload_n 1, 1) := by decide +kernel
theorem dX0_about_35 : decode cX0_about 35 = .ok (.getfield 39, 3) := by decide +kernel
theorem dX0_about_38 : decode cX0_about 38 = .ok (.iload_n 2, 1) := by decide +kernel
theorem dX0_about_39 : decode cX0_about 39 = .ok (.iaload, 1) := by decide +kernel
theorem dX0_about_40 : decode cX0_about 40 = .ok (.iastore, 1) := by decide +kernel
theorem dX0_about_41 : decode cX0_about 41 = .ok (.aload_n 0, 1) := by decide +kernel
theorem dX0_about_42 : decode cX0_about 42 = .ok (.getfield 15, 3) := by decide +kernel
theorem dX0_about_45 : decode cX0_about 45 = .ok (.iconst 2, 1) := by decide +kernel
theorem dX0_about_46 : decode cX0_about 46 = .ok (.aload_n 1, 1) := by decide +kernel
theorem dX0_about_47 : decode cX0_about 47 = .ok (.iload_n 2, 1) := by decide +kernel
theorem dX0_about_48 : decode cX0_about 48 = .ok (.invokevirtual 42, 3) := by decide +kernel
theorem dX0_about_51 : decode cX0_about 51 = .ok (.iastore, 1) := by decide +kernel
theorem dX0_about_52 : decode cX0_about 52 = .ok (.aload_n 0, 1) := by decide +kernel
theorem dX0_about_53 : decode cX0_about 53 = .ok (.getfield 15, 3) := by decide +kernel
theorem dX0_about_56 : decode cX0_about 56 = .ok (.iconst 3, 1) := by decide +kernel
theorem dX0_about_57 : decode cX0_about 57 = .ok (.aload_n 1, 1) := by decide +kernel
theorem dX0_about_58 : decode cX0_about 58 = .ok (.getfield 46, 3) := by decide +kernel
theorem dX0_about_61 : decode cX0_about 61 = .ok (.iload_n 2, 1) := by decide +kernel
theorem dX0_about_62 : decode cX0_about 62 = .ok (.iaload, 1) := by decide +kernel
theorem dX0_about_63 : decode cX0_about 63 = .ok (.iastore, 1) := by decide +kernel
theorem dX0_about_64 : decode cX0_about 64 = .ok (.aload_n 0, 1) := by decide +kernel
theorem dX0_about_65 : decode cX0_about 65 = .ok (.getfield 15, 3) := by decide +kernel
theorem dX0_about_68 : decode cX0_about 68 = .ok (.iconst 4, 1) := by decide +kernel
theorem dX0_about_69 : decode cX0_about 69 = .ok (.aload_n 1, 1) := by decide +kernel
theorem dX0_about_70 : decode cX0_about 70 = .ok (.getfield 49, 3) := by decide +kernel
theorem dX0_about_73 : decode cX0_about 73 = .ok (.iload_n 2, 1) := by decide +kernel
theorem dX0_about_74 : decode cX0_about 74 = .ok (.iaload, 1) := by decide +kernel
theorem dX0_about_75 : decode cX0_about 75 = .ok (.iastore, 1) := by decide +kernel
theorem dX0_about_76 : decode cX0_about 76 = .ok (.aload_n 0, 1) := by decide +kernel
theorem dX0_about_77 : decode cX0_about 77 = .ok (.getfield 15, 3) := by decide +kernel
theorem dX0_about_80 : decode cX0_about 80 = .ok (.iconst 5, 1) := by decide +kernel
theorem dX0_about_81 : decode cX0_about 81 = .ok (.aload_n 1, 1) := by decide +kernel
theorem dX0_about_82 : decode cX0_about 82 = .ok (.getfield 52, 3) := by decide +kernel
theorem dX0_about_85 : decode cX0_about 85 = .ok (.iload_n 2, 1) := by decide +kernel
theorem dX0_about_86 : decode cX0_about 86 = .ok (.iaload, 1) := by decide +kernel
theorem dX0_about_87 : decode cX0_about 87 = .ok (.iastore, 1) := by decide +kernel
theorem dX0_about_88 : decode cX0_about 88 = .ok (.aload_n 0, 1) := by decide +kernel
theorem dX0_about_89 : decode cX0_about 89 = .ok (.getfield 15, 3) := by decide +kernel
theorem dX0_about_92 : decode cX0_about 92 = .ok (.bipush 6, 2) := by decide +kernel
theorem dX0_about_94 : decode cX0_about 94 = .ok (.aload_n 1, 1) := by decide +kernel
theorem dX0_about_95 : decode cX0_about 95 = .ok (.getfield 33, 3) := by decide +kernel
theorem dX0_about_98 : decode cX0_about 98 = .ok (.iconst 0, 1) := by decide +kernel
theorem dX0_about_99 : decode cX0_about 99 = .ok (.iaload, 1) := by decide +kernel
theorem dX0_about_100 : decode cX0_about 100 = .ok (.iastore, 1) := by decide +kernel
theorem dX0_about_101 : decode cX0_about 101 = .ok (.aload_n 0, 1) := by decide +kernel
theorem dX0_about_102 : decode cX0_about 102 = .ok (.getfield 15, 3) := by decide +kernel
theorem dX0_about_105 : decode cX0_about 105 = .ok (.bipush 7, 2) := by decide +kernel
theorem dX0_about_107 : decode cX0_about 107 = .ok (.aload_n 1, 1) := by decide +kernel
theorem dX0_about_108 : decode cX0_about 108 = .ok (.getfield 33, 3) := by decide +kernel
theorem dX0_about_111 : decode cX0_about 111 = .ok (.iconst 2, 1) := by decide +kernel
theorem dX0_about_112 : decode cX0_about 112 = .ok (.iaload, 1) := by decide +kernel
theorem dX0_about_113 : decode cX0_about 113 = .ok (.iastore, 1) := by decide +kernel
theorem dX0_about_114 : decode cX0_about 114 = .ok (.return_, 1) := by decide +kernel
theorem dX0_atLife_0 : decode cX0_atLife 0 = .ok (.aload_n 0, 1) := by decide +kernel
theorem dX0_atLife_1 : decode cX0_atLife 1 = .ok (.getfield 15, 3) := by decide +kernel
theorem dX0_atLife_4 : decode cX0_atLife 4 = .ok (.iconst 1, 1) := by decide +kernel
theorem dX0_atLife_5 : decode cX0_atLife 5 = .ok (.iload_n 1, 1) := by decide +kernel
theorem dX0_atLife_6 : decode cX0_atLife 6 = .ok (.iastore, 1) := by decide +kernel
theorem dX0_atLife_7 : decode cX0_atLife 7 = .ok (.aload_n 0, 1) := by decide +kernel
theorem dX0_atLife_8 : decode cX0_atLife 8 = .ok (.getfield 15, 3) := by decide +kernel
theorem dX0_atLife_11 : decode cX0_atLife 11 = .ok (.iconst 2, 1) := by decide +kernel
theorem dX0_atLife_12 : decode cX0_atLife 12 = .ok (.iload_n 2, 1) := by decide +kernel
theorem dX0_atLife_13 : decode cX0_atLife 13 = .ok (.iastore, 1) := by decide +kernel
theorem dX0_atLife_14 : decode cX0_atLife 14 = .ok (.return_, 1) := by decide +kernel
theorem dX0_inYear_0 : decode cX0_inYear 0 = .ok (.aload_n 0, 1) := by decide +kernel
theorem dX0_inYear_1 : decode cX0_inYear 1 = .ok (.getfield 15, 3) := by decide +kernel
theorem dX0_inYear_4 : decode cX0_inYear 4 = .ok (.bipush 6, 2) := by decide +kernel
theorem dX0_inYear_6 : decode cX0_inYear 6 = .ok (.iload_n 1, 1) := by decide +kernel
theorem dX0_inYear_7 : decode cX0_inYear 7 = .ok (.iastore, 1) := by decide +kernel
theorem dX0_inYear_8 : decode cX0_inYear 8 = .ok (.return_, 1) := by decide +kernel
theorem dX0_tells_0 : decode cX0_tells 0 = .ok (.aload_n 0, 1) := by decide +kernel
theorem dX0_tells_1 : decode cX0_tells 1 = .ok (.getfield 29, 3) := by decide +kernel
theorem dX0_tells_4 : decode cX0_tells 4 = .ok (.ifnonnull 7, 3) := by decide +kernel
theorem dX0_tells_7 : decode cX0_tells 7 = .ok (.iconst (-1), 1) := by decide +kernel
theorem dX0_tells_8 : decode cX0_tells 8 = .ok (.goto 12, 3) := by decide +kernel
theorem dX0_tells_11 : decode cX0_tells 11 = .ok (.aload_n 0, 1) := by decide +kernel
theorem dX0_tells_12 : decode cX0_tells 12 = .ok (.getfield 29, 3) := by decide +kernel
theorem dX0_tells_15 : decode cX0_tells 15 = .ok (.getfield 55, 3) := by decide +kernel
theorem dX0_tells_18 : decode cX0_tells 18 = .ok (.iconst 1, 1) := by decide +kernel
theorem dX0_tells_19 : decode cX0_tells 19 = .ok (.isub, 1) := by decide +kernel
theorem dX0_tells_20 : decode cX0_tells 20 = .ok (.istore_n 2, 1) := by decide +kernel
theorem dX0_tells_21 : decode cX0_tells 21 = .ok (.iload_n 2, 1) := by decide +kernel
theorem dX0_tells_22 : decode cX0_tells 22 = .ok (.istore_n 3, 1) := by decide +kernel
theorem dX0_tells_23 : decode cX0_tells 23 = .ok (.iload_n 3, 1) := by decide +kernel
theorem dX0_tells_24 : decode cX0_tells 24 = .ok (.ifCond .lt 87, 3) := by decide +kernel
theorem dX0_tells_27 : decode cX0_tells 27 = .ok (.aload_n 0, 1) := by decide +kernel
theorem dX0_tells_28 : decode cX0_tells 28 = .ok (.getfield 29, 3) := by decide +kernel
theorem dX0_tells_31 : decode cX0_tells 31 = .ok (.getfield 60, 3) := by decide +kernel
theorem dX0_tells_34 : decode cX0_tells 34 = .ok (.iload_n 3, 1) := by decide +kernel
theorem dX0_tells_35 : decode cX0_tells 35 = .ok (.iaload, 1) := by decide +kernel
theorem dX0_tells_36 : decode cX0_tells 36 = .ok (.iload_n 1, 1) := by decide +kernel
theorem dX0_tells_37 : decode cX0_tells 37 = .ok (.if_icmp .ne 68, 3) := by decide +kernel
theorem dX0_tells_40 : decode cX0_tells 40 = .ok (.aload_n 0, 1) := by decide +kernel
theorem dX0_tells_41 : decode cX0_tells 41 = .ok (.getfield 9, 3) := by decide +kernel
theorem dX0_tells_44 : decode cX0_tells 44 = .ok (.aload_n 0, 1) := by decide +kernel
theorem dX0_tells_45 : decode cX0_tells 45 = .ok (.getfield 29, 3) := by decide +kernel
theorem dX0_tells_48 : decode cX0_tells 48 = .ok (.iload_n 3, 1) := by decide +kernel
theorem dX0_tells_49 : decode cX0_tells 49 = .ok (.iconst 2, 1) := by decide +kernel
theorem dX0_tells_50 : decode cX0_tells 50 = .ok (.aload_n 0, 1) := by decide +kernel
theorem dX0_tells_51 : decode cX0_tells 51 = .ok (.getfield 15, 3) := by decide +kernel
theorem dX0_tells_54 : decode cX0_tells 54 = .ok (.invokevirtual 63, 3) := by decide +kernel
theorem dX0_tells_57 : decode cX0_tells 57 = .ok (.lconst 1, 1) := by decide +kernel
theorem dX0_tells_58 : decode cX0_tells 58 = .ok (.lcmp, 1) := by decide +kernel
theorem dX0_tells_59 : decode cX0_tells 59 = .ok (.ifCond .ne 46, 3) := by decide +kernel
theorem dX0_tells_62 : decode cX0_tells 62 = .ok (.aload_n 0, 1) := by decide +kernel
theorem dX0_tells_63 : decode cX0_tells 63 = .ok (.getfield 9, 3) := by decide +kernel
theorem dX0_tells_66 : decode cX0_tells 66 = .ok (.aload_n 0, 1) := by decide +kernel
theorem dX0_tells_67 : decode cX0_tells 67 = .ok (.getfield 29, 3) := by decide +kernel
theorem dX0_tells_70 : decode cX0_tells 70 = .ok (.iload_n 3, 1) := by decide +kernel
theorem dX0_tells_71 : decode cX0_tells 71 = .ok (.iconst 0, 1) := by decide +kernel
theorem dX0_tells_72 : decode cX0_tells 72 = .ok (.aload_n 0, 1) := by decide +kernel
theorem dX0_tells_73 : decode cX0_tells 73 = .ok (.getfield 15, 3) := by decide +kernel
theorem dX0_tells_76 : decode cX0_tells 76 = .ok (.invokevirtual 63, 3) := by decide +kernel
theorem dX0_tells_79 : decode cX0_tells 79 = .ok (.lstore 4, 2) := by decide +kernel
theorem dX0_tells_81 : decode cX0_tells 81 = .ok (.lload 4, 2) := by decide +kernel
theorem dX0_tells_83 : decode cX0_tells 83 = .ok (.ldc2_w 69, 3) := by decide +kernel
theorem dX0_tells_86 : decode cX0_tells 86 = .ok (.lcmp, 1) := by decide +kernel
theorem dX0_tells_87 : decode cX0_tells 87 = .ok (.ifCond .eq 18, 3) := by decide +kernel
theorem dX0_tells_90 : decode cX0_tells 90 = .ok (.lconst 0, 1) := by decide +kernel
theorem dX0_tells_91 : decode cX0_tells 91 = .ok (.lload 4, 2) := by decide +kernel
theorem dX0_tells_93 : decode cX0_tells 93 = .ok (.iload_n 1, 1) := by decide +kernel
theorem dX0_tells_94 : decode cX0_tells 94 = .ok (.invokestatic 71, 3) := by decide +kernel
theorem dX0_tells_97 : decode cX0_tells 97 = .ok (.invokestatic 75, 3) := by decide +kernel
theorem dX0_tells_100 : decode cX0_tells 100 = .ok (.invokestatic 81, 3) := by decide +kernel
theorem dX0_tells_103 : decode cX0_tells 103 = .ok (.l2i, 1) := by decide +kernel
theorem dX0_tells_104 : decode cX0_tells 104 = .ok (.ireturn, 1) := by decide +kernel
theorem dX0_tells_105 : decode cX0_tells 105 = .ok (.iinc 3 (-1), 3) := by decide +kernel
theorem dX0_tells_108 : decode cX0_tells 108 = .ok (.goto (-85), 3) := by decide +kernel
theorem dX0_tells_111 : decode cX0_tells 111 = .ok (.iload_n 1, 1) := by decide +kernel
theorem dX0_tells_112 : decode cX0_tells 112 = .ok (.sipush 263, 3) := by decide +kernel
theorem dX0_tells_115 : decode cX0_tells 115 = .ok (.if_icmp .ne 14, 3) := by decide +kernel
theorem dX0_tells_118 : decode cX0_tells 118 = .ok (.aload_n 0, 1) := by decide +kernel
theorem dX0_tells_119 : decode cX0_tells 119 = .ok (.getfield 15, 3) := by decide +kernel
theorem dX0_tells_122 : decode cX0_tells 122 = .ok (.iconst 1, 1) := by decide +kernel
theorem dX0_tells_123 : decode cX0_tells 123 = .ok (.iaload, 1) := by decide +kernel
theorem dX0_tells_124 : decode cX0_tells 124 = .ok (.iconst 1, 1) := by decide +kernel
theorem dX0_tells_125 : decode cX0_tells 125 = .ok (.iadd, 1) := by decide +kernel
theorem dX0_tells_126 : decode cX0_tells 126 = .ok (.goto 23, 3) := by decide +kernel
theorem dX0_tells_129 : decode cX0_tells 129 = .ok (.iload_n 1, 1) := by decide +kernel
theorem dX0_tells_130 : decode cX0_tells 130 = .ok (.sipush 264, 3) := by decide +kernel
theorem dX0_tells_133 : decode cX0_tells 133 = .ok (.if_icmp .ne 10, 3) := by decide +kernel
theorem dX0_tells_136 : decode cX0_tells 136 = .ok (.aload_n 0, 1) := by decide +kernel
theorem dX0_tells_137 : decode cX0_tells 137 = .ok (.getfield 36, 3) := by decide +kernel
theorem dX0_tells_140 : decode cX0_tells 140 = .ok (.goto 9, 3) := by decide +kernel
theorem dX0_tells_143 : decode cX0_tells 143 = .ok (.aload_n 0, 1) := by decide +kernel
theorem dX0_tells_144 : decode cX0_tells 144 = .ok (.getfield 15, 3) := by decide +kernel
theorem dX0_tells_147 : decode cX0_tells 147 = .ok (.iconst 1, 1) := by decide +kernel
theorem dX0_tells_148 : decode cX0_tells 148 = .ok (.iaload, 1) := by decide +kernel
theorem dX0_tells_149 : decode cX0_tells 149 = .ok (.ireturn, 1) := by decide +kernel
theorem dX0_mostOf_0 : decode cX0_mostOf 0 = .ok (.iload_n 0, 1) := by decide +kernel
theorem dX0_mostOf_1 : decode cX0_mostOf 1 = .ok (.sipush 263, 3) := by decide +kernel
theorem dX0_mostOf_4 : decode cX0_mostOf 4 = .ok (.if_icmp .ne 9, 3) := by decide +kernel
theorem dX0_mostOf_7 : decode cX0_mostOf 7 = .ok (.ldc2_w 84, 3) := by decide +kernel
theorem dX0_mostOf_10 : decode cX0_mostOf 10 = .ok (.goto 19, 3) := by decide +kernel
theorem dX0_mostOf_13 : decode cX0_mostOf 13 = .ok (.iload_n 0, 1) := by decide +kernel
theorem dX0_mostOf_14 : decode cX0_mostOf 14 = .ok (.sipush 264, 3) := by decide +kernel
theorem dX0_mostOf_17 : decode cX0_mostOf 17 = .ok (.if_icmp .ne 9, 3) := by decide +kernel
theorem dX0_mostOf_20 : decode cX0_mostOf 20 = .ok (.ldc2_w 86, 3) := by decide +kernel
theorem dX0_mostOf_23 : decode cX0_mostOf 23 = .ok (.goto 6, 3) := by decide +kernel
theorem dX0_mostOf_26 : decode cX0_mostOf 26 = .ok (.ldc2_w 88, 3) := by decide +kernel
theorem dX0_mostOf_29 : decode cX0_mostOf 29 = .ok (.lreturn, 1) := by decide +kernel
theorem dX0_isBarred_0 : decode cX0_isBarred 0 = .ok (.aload_n 0, 1) := by decide +kernel
theorem dX0_isBarred_1 : decode cX0_isBarred 1 = .ok (.aload_n 1, 1) := by decide +kernel
theorem dX0_isBarred_2 : decode cX0_isBarred 2 = .ok (.iload_n 2, 1) := by decide +kernel
theorem dX0_isBarred_3 : decode cX0_isBarred 3 = .ok (.invokevirtual 90, 3) := by decide +kernel
theorem dX0_isBarred_6 : decode cX0_isBarred 6 = .ok (.aload_n 0, 1) := by decide +kernel
theorem dX0_isBarred_7 : decode cX0_isBarred 7 = .ok (.getfield 15, 3) := by decide +kernel
theorem dX0_isBarred_10 : decode cX0_isBarred 10 = .ok (.iconst 5, 1) := by decide +kernel
theorem dX0_isBarred_11 : decode cX0_isBarred 11 = .ok (.iload_n 3, 1) := by decide +kernel
theorem dX0_isBarred_12 : decode cX0_isBarred 12 = .ok (.iastore, 1) := by decide +kernel
theorem dX0_isBarred_13 : decode cX0_isBarred 13 = .ok (.aload_n 0, 1) := by decide +kernel
theorem dX0_isBarred_14 : decode cX0_isBarred 14 = .ok (.getfield 29, 3) := by decide +kernel
theorem dX0_isBarred_17 : decode cX0_isBarred 17 = .ok (.ifnonnull 7, 3) := by decide +kernel
theorem dX0_isBarred_20 : decode cX0_isBarred 20 = .ok (.iconst 0, 1) := by decide +kernel
theorem dX0_isBarred_21 : decode cX0_isBarred 21 = .ok (.goto 10, 3) := by decide +kernel
theorem dX0_isBarred_24 : decode cX0_isBarred 24 = .ok (.aload_n 0, 1) := by decide +kernel
theorem dX0_isBarred_25 : decode cX0_isBarred 25 = .ok (.getfield 29, 3) := by decide +kernel
theorem dX0_isBarred_28 : decode cX0_isBarred 28 = .ok (.getfield 55, 3) := by decide +kernel
theorem dX0_isBarred_31 : decode cX0_isBarred 31 = .ok (.istore 4, 2) := by decide +kernel
theorem dX0_isBarred_33 : decode cX0_isBarred 33 = .ok (.iconst 0, 1) := by decide +kernel
theorem dX0_isBarred_34 : decode cX0_isBarred 34 = .ok (.istore 5, 2) := by decide +kernel
theorem dX0_isBarred_36 : decode cX0_isBarred 36 = .ok (.iload 5, 2) := by decide +kernel
theorem dX0_isBarred_38 : decode cX0_isBarred 38 = .ok (.iload 4, 2) := by decide +kernel
theorem dX0_isBarred_40 : decode cX0_isBarred 40 = .ok (.if_icmp .ge 50, 3) := by decide +kernel
theorem dX0_isBarred_43 : decode cX0_isBarred 43 = .ok (.aload_n 0, 1) := by decide +kernel
theorem dX0_isBarred_44 : decode cX0_isBarred 44 = .ok (.getfield 29, 3) := by decide +kernel
theorem dX0_isBarred_47 : decode cX0_isBarred 47 = .ok (.getfield 60, 3) := by decide +kernel
theorem dX0_isBarred_50 : decode cX0_isBarred 50 = .ok (.iload 5, 2) := by decide +kernel
theorem dX0_isBarred_52 : decode cX0_isBarred 52 = .ok (.iaload, 1) := by decide +kernel
theorem dX0_isBarred_53 : decode cX0_isBarred 53 = .ok (.sipush 266, 3) := by decide +kernel
theorem dX0_isBarred_56 : decode cX0_isBarred 56 = .ok (.if_icmp .ne 28, 3) := by decide +kernel
theorem dX0_isBarred_59 : decode cX0_isBarred 59 = .ok (.aload_n 0, 1) := by decide +kernel
theorem dX0_isBarred_60 : decode cX0_isBarred 60 = .ok (.getfield 9, 3) := by decide +kernel
theorem dX0_isBarred_63 : decode cX0_isBarred 63 = .ok (.aload_n 0, 1) := by decide +kernel
theorem dX0_isBarred_64 : decode cX0_isBarred 64 = .ok (.getfield 29, 3) := by decide +kernel
theorem dX0_isBarred_67 : decode cX0_isBarred 67 = .ok (.iload 5, 2) := by decide +kernel
theorem dX0_isBarred_69 : decode cX0_isBarred 69 = .ok (.iconst 2, 1) := by decide +kernel
theorem dX0_isBarred_70 : decode cX0_isBarred 70 = .ok (.aload_n 0, 1) := by decide +kernel
theorem dX0_isBarred_71 : decode cX0_isBarred 71 = .ok (.getfield 15, 3) := by decide +kernel
theorem dX0_isBarred_74 : decode cX0_isBarred 74 = .ok (.invokevirtual 63, 3) := by decide +kernel
theorem dX0_isBarred_77 : decode cX0_isBarred 77 = .ok (.lconst 1, 1) := by decide +kernel
theorem dX0_isBarred_78 : decode cX0_isBarred 78 = .ok (.lcmp, 1) := by decide +kernel
theorem dX0_isBarred_79 : decode cX0_isBarred 79 = .ok (.ifCond .ne 5, 3) := by decide +kernel
theorem dX0_isBarred_82 : decode cX0_isBarred 82 = .ok (.iconst 1, 1) := by decide +kernel
theorem dX0_isBarred_83 : decode cX0_isBarred 83 = .ok (.ireturn, 1) := by decide +kernel
theorem dX0_isBarred_84 : decode cX0_isBarred 84 = .ok (.iinc 5 1, 3) := by decide +kernel
theorem dX0_isBarred_87 : decode cX0_isBarred 87 = .ok (.goto (-51), 3) := by decide +kernel
theorem dX0_isBarred_90 : decode cX0_isBarred 90 = .ok (.iconst 0, 1) := by decide +kernel
theorem dX0_isBarred_91 : decode cX0_isBarred 91 = .ok (.ireturn, 1) := by decide +kernel
theorem dX0_barredFrom_0 : decode cX0_barredFrom 0 = .ok (.iconst 0, 1) := by decide +kernel
theorem dX0_barredFrom_1 : decode cX0_barredFrom 1 = .ok (.istore_n 3, 1) := by decide +kernel
theorem dX0_barredFrom_2 : decode cX0_barredFrom 2 = .ok (.iconst 0, 1) := by decide +kernel
theorem dX0_barredFrom_3 : decode cX0_barredFrom 3 = .ok (.istore 4, 2) := by decide +kernel
theorem dX0_barredFrom_5 : decode cX0_barredFrom 5 = .ok (.iload 4, 2) := by decide +kernel
theorem dX0_barredFrom_7 : decode cX0_barredFrom 7 = .ok (.aload_n 1, 1) := by decide +kernel
theorem dX0_barredFrom_8 : decode cX0_barredFrom 8 = .ok (.getfield 94, 3) := by decide +kernel
theorem dX0_barredFrom_11 : decode cX0_barredFrom 11 = .ok (.if_icmp .ge 36, 3) := by decide +kernel
theorem dX0_barredFrom_14 : decode cX0_barredFrom 14 = .ok (.aload_n 1, 1) := by decide +kernel
theorem dX0_barredFrom_15 : decode cX0_barredFrom 15 = .ok (.iload 4, 2) := by decide +kernel
theorem dX0_barredFrom_17 : decode cX0_barredFrom 17 = .ok (.invokevirtual 97, 3) := by decide +kernel
theorem dX0_barredFrom_20 : decode cX0_barredFrom 20 = .ok (.ifCond .eq 21, 3) := by decide +kernel
theorem dX0_barredFrom_23 : decode cX0_barredFrom 23 = .ok (.aload_n 0, 1) := by decide +kernel
theorem dX0_barredFrom_24 : decode cX0_barredFrom 24 = .ok (.aload_n 1, 1) := by decide +kernel
theorem dX0_barredFrom_25 : decode cX0_barredFrom 25 = .ok (.iload 4, 2) := by decide +kernel
theorem dX0_barredFrom_27 : decode cX0_barredFrom 27 = .ok (.iload_n 2, 1) := by decide +kernel
theorem dX0_barredFrom_28 : decode cX0_barredFrom 28 = .ok (.invokevirtual 101, 3) := by decide +kernel
theorem dX0_barredFrom_31 : decode cX0_barredFrom 31 = .ok (.ifCond .eq 10, 3) := by decide +kernel
theorem dX0_barredFrom_34 : decode cX0_barredFrom 34 = .ok (.iload_n 3, 1) := by decide +kernel
theorem dX0_barredFrom_35 : decode cX0_barredFrom 35 = .ok (.iconst 1, 1) := by decide +kernel
theorem dX0_barredFrom_36 : decode cX0_barredFrom 36 = .ok (.iload 4, 2) := by decide +kernel
theorem dX0_barredFrom_38 : decode cX0_barredFrom 38 = .ok (.ishl, 1) := by decide +kernel
theorem dX0_barredFrom_39 : decode cX0_barredFrom 39 = .ok (.ior, 1) := by decide +kernel
theorem dX0_barredFrom_40 : decode cX0_barredFrom 40 = .ok (.istore_n 3, 1) := by decide +kernel
theorem dX0_barredFrom_41 : decode cX0_barredFrom 41 = .ok (.iinc 4 1, 3) := by decide +kernel
theorem dX0_barredFrom_44 : decode cX0_barredFrom 44 = .ok (.goto (-39), 3) := by decide +kernel
theorem dX0_barredFrom_47 : decode cX0_barredFrom 47 = .ok (.iload_n 3, 1) := by decide +kernel
theorem dX0_barredFrom_48 : decode cX0_barredFrom 48 = .ok (.ireturn, 1) := by decide +kernel
theorem dX1_init_0 : decode cX1_init 0 = .ok (.aload_n 0, 1) := by decide +kernel
theorem dX1_init_1 : decode cX1_init 1 = .ok (.invokespecial 3, 3) := by decide +kernel
theorem dX1_init_4 : decode cX1_init 4 = .ok (.aload_n 0, 1) := by decide +kernel
theorem dX1_init_5 : decode cX1_init 5 = .ok (.aload_n 1, 1) := by decide +kernel
theorem dX1_init_6 : decode cX1_init 6 = .ok (.putfield 9, 3) := by decide +kernel
theorem dX1_init_9 : decode cX1_init 9 = .ok (.aload_n 0, 1) := by decide +kernel
theorem dX1_init_10 : decode cX1_init 10 = .ok (.aload_n 2, 1) := by decide +kernel
theorem dX1_init_11 : decode cX1_init 11 = .ok (.putfield 15, 3) := by decide +kernel
theorem dX1_init_14 : decode cX1_init 14 = .ok (.aload_n 0, 1) := by decide +kernel
theorem dX1_init_15 : decode cX1_init 15 = .ok (.new 19, 3) := by decide +kernel
theorem dX1_init_18 : decode cX1_init 18 = .ok (.dup, 1) := by decide +kernel
theorem dX1_init_19 : decode cX1_init 19 = .ok (.invokespecial 21, 3) := by decide +kernel
theorem dX1_init_22 : decode cX1_init 22 = .ok (.putfield 22, 3) := by decide +kernel
theorem dX1_init_25 : decode cX1_init 25 = .ok (.aload_n 0, 1) := by decide +kernel
theorem dX1_init_26 : decode cX1_init 26 = .ok (.new 26, 3) := by decide +kernel
theorem dX1_init_29 : decode cX1_init 29 = .ok (.dup, 1) := by decide +kernel
theorem dX1_init_30 : decode cX1_init 30 = .ok (.invokespecial 28, 3) := by decide +kernel
theorem dX1_init_33 : decode cX1_init 33 = .ok (.putfield 29, 3) := by decide +kernel
theorem dX1_init_36 : decode cX1_init 36 = .ok (.aload_n 0, 1) := by decide +kernel
theorem dX1_init_37 : decode cX1_init 37 = .ok (.new 19, 3) := by decide +kernel
theorem dX1_init_40 : decode cX1_init 40 = .ok (.dup, 1) := by decide +kernel
theorem dX1_init_41 : decode cX1_init 41 = .ok (.invokespecial 21, 3) := by decide +kernel
theorem dX1_init_44 : decode cX1_init 44 = .ok (.putfield 32, 3) := by decide +kernel
theorem dX1_init_47 : decode cX1_init 47 = .ok (.return_, 1) := by decide +kernel
theorem dX1_act_0 : decode cX1_act 0 = .ok (.iload_n 1, 1) := by decide +kernel
theorem dX1_act_1 : decode cX1_act 1 = .ok (.tableswitch 48 0 2 #[27, 34, 41], 27) := by decide +kernel
theorem dX1_act_28 : decode cX1_act 28 = .ok (.aload_n 0, 1) := by decide +kernel
theorem dX1_act_29 : decode cX1_act 29 = .ok (.iload_n 2, 1) := by decide +kernel
theorem dX1_act_30 : decode cX1_act 30 = .ok (.iload_n 3, 1) := by decide +kernel
theorem dX1_act_31 : decode cX1_act 31 = .ok (.invokevirtual 35, 3) := by decide +kernel
theorem dX1_act_34 : decode cX1_act 34 = .ok (.ireturn, 1) := by decide +kernel
theorem dX1_act_35 : decode cX1_act 35 = .ok (.aload_n 0, 1) := by decide +kernel
theorem dX1_act_36 : decode cX1_act 36 = .ok (.iload_n 2, 1) := by decide +kernel
theorem dX1_act_37 : decode cX1_act 37 = .ok (.iload_n 3, 1) := by decide +kernel
theorem dX1_act_38 : decode cX1_act 38 = .ok (.invokevirtual 39, 3) := by decide +kernel
theorem dX1_act_41 : decode cX1_act 41 = .ok (.ireturn, 1) := by decide +kernel
theorem dX1_act_42 : decode cX1_act 42 = .ok (.aload_n 0, 1) := by decide +kernel
theorem dX1_act_43 : decode cX1_act 43 = .ok (.iload_n 2, 1) := by decide +kernel
theorem dX1_act_44 : decode cX1_act 44 = .ok (.iload_n 3, 1) := by decide +kernel
theorem dX1_act_45 : decode cX1_act 45 = .ok (.invokevirtual 42, 3) := by decide +kernel
theorem dX1_act_48 : decode cX1_act 48 = .ok (.ireturn, 1) := by decide +kernel
theorem dX1_act_49 : decode cX1_act 49 = .ok (.aload_n 0, 1) := by decide +kernel
theorem dX1_act_50 : decode cX1_act 50 = .ok (.getfield 9, 3) := by decide +kernel
theorem dX1_act_53 : decode cX1_act 53 = .ok (.getfield 45, 3) := by decide +kernel
theorem dX1_act_56 : decode cX1_act 56 = .ok (.iconst 0, 1) := by decide +kernel
theorem dX1_act_57 : decode cX1_act 57 = .ok (.iaload, 1) := by decide +kernel
theorem dX1_act_58 : decode cX1_act 58 = .ok (.sipush 999, 3) := by decide +kernel
theorem dX1_act_61 : decode cX1_act 61 = .ok (.if_icmp .lt 6, 3) := by decide +kernel
theorem dX1_act_64 : decode cX1_act 64 = .ok (.bipush (-3), 2) := by decide +kernel
theorem dX1_act_66 : decode cX1_act 66 = .ok (.ireturn, 1) := by decide +kernel
theorem dX1_act_67 : decode cX1_act 67 = .ok (.aload_n 0, 1) := by decide +kernel
theorem dX1_act_68 : decode cX1_act 68 = .ok (.getfield 22, 3) := by decide +kernel
theorem dX1_act_71 : decode cX1_act 71 = .ok (.iconst 3, 1) := by decide +kernel
theorem dX1_act_72 : decode cX1_act 72 = .ok (.aload_n 0, 1) := by decide +kernel
theorem dX1_act_73 : decode cX1_act 73 = .ok (.getfield 9, 3) := by decide +kernel
theorem dX1_act_76 : decode cX1_act 76 = .ok (.invokevirtual 49, 3) := by decide +kernel
theorem dX1_act_79 : decode cX1_act 79 = .ok (.aload_n 0, 1) := by decide +kernel
theorem dX1_act_80 : decode cX1_act 80 = .ok (.getfield 9, 3) := by decide +kernel
theorem dX1_act_83 : decode cX1_act 83 = .ok (.aload_n 0, 1) := by decide +kernel
theorem dX1_act_84 : decode cX1_act 84 = .ok (.getfield 15, 3) := by decide +kernel
theorem dX1_act_87 : decode cX1_act 87 = .ok (.invokevirtual 53, 3) := by decide +kernel
theorem dX1_act_90 : decode cX1_act 90 = .ok (.aload_n 0, 1) := by decide +kernel
theorem dX1_act_91 : decode cX1_act 91 = .ok (.getfield 9, 3) := by decide +kernel
theorem dX1_act_94 : decode cX1_act 94 = .ok (.getfield 45, 3) := by decide +kernel
theorem dX1_act_97 : decode cX1_act 97 = .ok (.iconst 0, 1) := by decide +kernel
theorem dX1_act_98 : decode cX1_act 98 = .ok (.iaload, 1) := by decide +kernel
theorem dX1_act_99 : decode cX1_act 99 = .ok (.ireturn, 1) := by decide +kernel
theorem dX1_signOn_0 : decode cX1_signOn 0 = .ok (.aload_n 0, 1) := by decide +kernel
theorem dX1_signOn_1 : decode cX1_signOn 1 = .ok (.getfield 9, 3) := by decide +kernel
theorem dX1_signOn_4 : decode cX1_signOn 4 = .ok (.iload_n 1, 1) := by decide +kernel
theorem dX1_signOn_5 : decode cX1_signOn 5 = .ok (.invokevirtual 57, 3) := by decide +kernel
theorem dX1_signOn_8 : decode cX1_signOn 8 = .ok (.ifCond .eq 14, 3) := by decide +kernel
theorem dX1_signOn_11 : decode cX1_signOn 11 = .ok (.aload_n 0, 1) := by decide +kernel
theorem dX1_signOn_12 : decode cX1_signOn 12 = .ok (.getfield 9, 3) := by decide +kernel
theorem dX1_signOn_15 : decode cX1_signOn 15 = .ok (.iload_n 2, 1) := by decide +kernel
theorem dX1_signOn_16 : decode cX1_signOn 16 = .ok (.invokevirtual 61, 3) := by decide +kernel
theorem dX1_signOn_19 : decode cX1_signOn 19 = .ok (.ifCond .ne 6, 3) := by decide +kernel
theorem dX1_signOn_22 : decode cX1_signOn 22 = .ok (.bipush (-2), 2) := by decide +kernel
theorem dX1_signOn_24 : decode cX1_signOn 24 = .ok (.ireturn, 1) := by decide +kernel
theorem dX1_signOn_25 : decode cX1_signOn 25 = .ok (.aload_n 0, 1) := by decide +kernel
theorem dX1_signOn_26 : decode cX1_signOn 26 = .ok (.getfield 9, 3) := by decide +kernel
theorem dX1_signOn_29 : decode cX1_signOn 29 = .ok (.iload_n 1, 1) := by decide +kernel
theorem dX1_signOn_30 : decode cX1_signOn 30 = .ok (.invokevirtual 64, 3) := by decide +kernel
theorem dX1_signOn_33 : decode cX1_signOn 33 = .ok (.ifCond .eq 32, 3) := by decide +kernel
theorem dX1_signOn_36 : decode cX1_signOn 36 = .ok (.aload_n 0, 1) := by decide +kernel
theorem dX1_signOn_37 : decode cX1_signOn 37 = .ok (.getfield 9, 3) := by decide +kernel
theorem dX1_signOn_40 : decode cX1_signOn 40 = .ok (.getfield 67, 3) := by decide +kernel
theorem dX1_signOn_43 : decode cX1_signOn 43 = .ok (.iload_n 1, 1) := by decide +kernel
theorem dX1_signOn_44 : decode cX1_signOn 44 = .ok (.iaload, 1) := by decide +kernel
theorem dX1_signOn_45 : decode cX1_signOn 45 = .ok (.iload_n 2, 1) := by decide +kernel
theorem dX1_signOn_46 : decode cX1_signOn 46 = .ok (.if_icmp .eq 19, 3) := by decide +kernel
theorem dX1_signOn_49 : decode cX1_signOn 49 = .ok (.aload_n 0, 1) := by decide +kernel
theorem dX1_signOn_50 : decode cX1_signOn 50 = .ok (.getfield 15, 3) := by decide +kernel
theorem dX1_signOn_53 : decode cX1_signOn 53 = .ok (.aload_n 0, 1) := by decide +kernel
theorem dX1_signOn_54 : decode cX1_signOn 54 = .ok (.getfield 9, 3) := by decide +kernel
theorem dX1_signOn_57 : decode cX1_signOn 57 = .ok (.iload_n 1, 1) := by decide +kernel
theorem dX1_signOn_58 : decode cX1_signOn 58 = .ok (.iload_n 2, 1) := by decide +kernel
theorem dX1_signOn_59 : decode cX1_signOn 59 = .ok (.invokevirtual 70, 3) := by decide +kernel
theorem dX1_signOn_62 : decode cX1_signOn 62 = .ok (.ifCond .eq 6, 3) := by decide +kernel
theorem dX1_signOn_65 : decode cX1_signOn 65 = .ok (.bipush (-3), 2) := by decide +kernel
theorem dX1_signOn_67 : decode cX1_signOn 67 = .ok (.ireturn, 1) := by decide +kernel
theorem dX1_signOn_68 : decode cX1_signOn 68 = .ok (.aload_n 0, 1) := by decide +kernel
theorem dX1_signOn_69 : decode cX1_signOn 69 = .ok (.getfield 22, 3) := by decide +kernel
theorem dX1_signOn_72 : decode cX1_signOn 72 = .ok (.iconst 0, 1) := by decide +kernel
theorem dX1_signOn_73 : decode cX1_signOn 73 = .ok (.aload_n 0, 1) := by decide +kernel
theorem dX1_signOn_74 : decode cX1_signOn 74 = .ok (.getfield 9, 3) := by decide +kernel
theorem dX1_signOn_77 : decode cX1_signOn 77 = .ok (.invokevirtual 49, 3) := by decide +kernel
theorem dX1_signOn_80 : decode cX1_signOn 80 = .ok (.aload_n 0, 1) := by decide +kernel
theorem dX1_signOn_81 : decode cX1_signOn 81 = .ok (.getfield 9, 3) := by decide +kernel
theorem dX1_signOn_84 : decode cX1_signOn 84 = .ok (.getfield 67, 3) := by decide +kernel
theorem dX1_signOn_87 : decode cX1_signOn 87 = .ok (.iload_n 1, 1) := by decide +kernel
theorem dX1_signOn_88 : decode cX1_signOn 88 = .ok (.iload_n 2, 1) := by decide +kernel
theorem dX1_signOn_89 : decode cX1_signOn 89 = .ok (.iastore, 1) := by decide +kernel
theorem dX1_signOn_90 : decode cX1_signOn 90 = .ok (.aload_n 0, 1) := by decide +kernel
theorem dX1_signOn_91 : decode cX1_signOn 91 = .ok (.getfield 9, 3) := by decide +kernel
theorem dX1_signOn_94 : decode cX1_signOn 94 = .ok (.iload_n 2, 1) := by decide +kernel
theorem dX1_signOn_95 : decode cX1_signOn 95 = .ok (.invokevirtual 76, 3) := by decide +kernel
theorem dX1_signOn_98 : decode cX1_signOn 98 = .ok (.invokestatic 80, 3) := by decide +kernel
theorem dX1_signOn_101 : decode cX1_signOn 101 = .ok (.ireturn, 1) := by decide +kernel
theorem dX1_dieAs_0 : decode cX1_dieAs 0 = .ok (.iload_n 2, 1) := by decide +kernel
theorem dX1_dieAs_1 : decode cX1_dieAs 1 = .ok (.bipush 9, 2) := by decide +kernel
theorem dX1_dieAs_3 : decode cX1_dieAs 3 = .ok (.if_icmp .eq 12, 3) := by decide +kernel
theorem dX1_dieAs_6 : decode cX1_dieAs 6 = .ok (.iload_n 2, 1) := by decide +kernel
theorem dX1_dieAs_7 : decode cX1_dieAs 7 = .ok (.invokestatic 85, 3) := by decide +kernel
theorem dX1_dieAs_10 : decode cX1_dieAs 10 = .ok (.ifCond .ne 5, 3) := by decide +kernel
theorem dX1_dieAs_13 : decode cX1_dieAs 13 = .ok (.iconst (-1), 1) := by decide +kernel
theorem dX1_dieAs_14 : decode cX1_dieAs 14 = .ok (.ireturn, 1) := by decide +kernel
theorem dX1_dieAs_15 : decode cX1_dieAs 15 = .ok (.aload_n 0, 1) := by decide +kernel
theorem dX1_dieAs_16 : decode cX1_dieAs 16 = .ok (.getfield 9, 3) := by decide +kernel
theorem dX1_dieAs_19 : decode cX1_dieAs 19 = .ok (.iload_n 1, 1) := by decide +kernel
theorem dX1_dieAs_20 : decode cX1_dieAs 20 = .ok (.invokevirtual 57, 3) := by decide +kernel
theorem dX1_dieAs_23 : decode cX1_dieAs 23 = .ok (.ifCond .ne 6, 3) := by decide +kernel
theorem dX1_dieAs_26 : decode cX1_dieAs 26 = .ok (.bipush (-2), 2) := by decide +kernel
theorem dX1_dieAs_28 : decode cX1_dieAs 28 = .ok (.ireturn, 1) := by decide +kernel
theorem dX1_dieAs_29 : decode cX1_dieAs 29 = .ok (.aload_n 0, 1) := by decide +kernel
theorem dX1_dieAs_30 : decode cX1_dieAs 30 = .ok (.getfield 9, 3) := by decide +kernel
theorem dX1_dieAs_33 : decode cX1_dieAs 33 = .ok (.getfield 88, 3) := by decide +kernel
theorem dX1_dieAs_36 : decode cX1_dieAs 36 = .ok (.iload_n 1, 1) := by decide +kernel
theorem dX1_dieAs_37 : decode cX1_dieAs 37 = .ok (.iaload, 1) := by decide +kernel
theorem dX1_dieAs_38 : decode cX1_dieAs 38 = .ok (.istore_n 3, 1) := by decide +kernel
theorem dX1_dieAs_39 : decode cX1_dieAs 39 = .ok (.iload_n 2, 1) := by decide +kernel
theorem dX1_dieAs_40 : decode cX1_dieAs 40 = .ok (.bipush 9, 2) := by decide +kernel
theorem dX1_dieAs_42 : decode cX1_dieAs 42 = .ok (.if_icmp .ne 15, 3) := by decide +kernel
theorem dX1_dieAs_45 : decode cX1_dieAs 45 = .ok (.iload_n 3, 1) := by decide +kernel
theorem dX1_dieAs_46 : decode cX1_dieAs 46 = .ok (.ifCond .ne 7, 3) := by decide +kernel
theorem dX1_dieAs_49 : decode cX1_dieAs 49 = .ok (.iconst 1, 1) := by decide +kernel
theorem dX1_dieAs_50 : decode cX1_dieAs 50 = .ok (.goto 12, 3) := by decide +kernel
theorem dX1_dieAs_53 : decode cX1_dieAs 53 = .ok (.iconst 0, 1) := by decide +kernel
theorem dX1_dieAs_54 : decode cX1_dieAs 54 = .ok (.goto 8, 3) := by decide +kernel
theorem dX1_dieAs_57 : decode cX1_dieAs 57 = .ok (.iload_n 3, 1) := by decide +kernel
theorem dX1_dieAs_58 : decode cX1_dieAs 58 = .ok (.iload_n 2, 1) := by decide +kernel
theorem dX1_dieAs_59 : decode cX1_dieAs 59 = .ok (.invokestatic 91, 3) := by decide +kernel
theorem dX1_dieAs_62 : decode cX1_dieAs 62 = .ok (.istore 4, 2) := by decide +kernel
theorem dX1_dieAs_64 : decode cX1_dieAs 64 = .ok (.aload_n 0, 1) := by decide +kernel
theorem dX1_dieAs_65 : decode cX1_dieAs 65 = .ok (.getfield 9, 3) := by decide +kernel
theorem dX1_dieAs_68 : decode cX1_dieAs 68 = .ok (.iload_n 1, 1) := by decide +kernel
theorem dX1_dieAs_69 : decode cX1_dieAs 69 = .ok (.invokevirtual 64, 3) := by decide +kernel
theorem dX1_dieAs_72 : decode cX1_dieAs 72 = .ok (.ifCond .eq 8, 3) := by decide +kernel
theorem dX1_dieAs_75 : decode cX1_dieAs 75 = .ok (.iload 4, 2) := by decide +kernel
theorem dX1_dieAs_77 : decode cX1_dieAs 77 = .ok (.ifCond .ne 6, 3) := by decide +kernel
theorem dX1_dieAs_80 : decode cX1_dieAs 80 = .ok (.bipush (-3), 2) := by decide +kernel
theorem dX1_dieAs_82 : decode cX1_dieAs 82 = .ok (.ireturn, 1) := by decide +kernel
theorem dX1_dieAs_83 : decode cX1_dieAs 83 = .ok (.aload_n 0, 1) := by decide +kernel
theorem dX1_dieAs_84 : decode cX1_dieAs 84 = .ok (.getfield 22, 3) := by decide +kernel
theorem dX1_dieAs_87 : decode cX1_dieAs 87 = .ok (.iconst 1, 1) := by decide +kernel
theorem dX1_dieAs_88 : decode cX1_dieAs 88 = .ok (.aload_n 0, 1) := by decide +kernel
theorem dX1_dieAs_89 : decode cX1_dieAs 89 = .ok (.getfield 9, 3) := by decide +kernel
theorem dX1_dieAs_92 : decode cX1_dieAs 92 = .ok (.invokevirtual 49, 3) := by decide +kernel
theorem dX1_dieAs_95 : decode cX1_dieAs 95 = .ok (.aload_n 0, 1) := by decide +kernel
theorem dX1_dieAs_96 : decode cX1_dieAs 96 = .ok (.getfield 9, 3) := by decide +kernel
theorem dX1_dieAs_99 : decode cX1_dieAs 99 = .ok (.iload_n 1, 1) := by decide +kernel
theorem dX1_dieAs_100 : decode cX1_dieAs 100 = .ok (.iload_n 2, 1) := by decide +kernel
theorem dX1_dieAs_101 : decode cX1_dieAs 101 = .ok (.invokevirtual 95, 3) := by decide +kernel
theorem dX1_dieAs_104 : decode cX1_dieAs 104 = .ok (.aload_n 0, 1) := by decide +kernel
theorem dX1_dieAs_105 : decode cX1_dieAs 105 = .ok (.getfield 9, 3) := by decide +kernel
theorem dX1_dieAs_108 : decode cX1_dieAs 108 = .ok (.getfield 88, 3) := by decide +kernel
theorem dX1_dieAs_111 : decode cX1_dieAs 111 = .ok (.iload_n 1, 1) := by decide +kernel
theorem dX1_dieAs_112 : decode cX1_dieAs 112 = .ok (.iaload, 1) := by decide +kernel
theorem dX1_dieAs_113 : decode cX1_dieAs 113 = .ok (.invokestatic 80, 3) := by decide +kernel
theorem dX1_dieAs_116 : decode cX1_dieAs 116 = .ok (.ireturn, 1) := by decide +kernel
theorem dX1_clipAs_0 : decode cX1_clipAs 0 = .ok (.iload_n 2, 1) := by decide +kernel
theorem dX1_clipAs_1 : decode cX1_clipAs 1 = .ok (.ifCond .lt 9, 3) := by decide +kernel
theorem dX1_clipAs_4 : decode cX1_clipAs 4 = .ok (.iload_n 2, 1) := by decide +kernel
theorem dX1_clipAs_5 : decode cX1_clipAs 5 = .ok (.bipush 9, 2) := by decide +kernel
theorem dX1_clipAs_7 : decode cX1_clipAs 7 = .ok (.if_icmp .lt 5, 3) := by decide +kernel
theorem dX1_clipAs_10 : decode cX1_clipAs 10 = .ok (.iconst (-1), 1) := by decide +kernel
theorem dX1_clipAs_11 : decode cX1_clipAs 11 = .ok (.ireturn, 1) := by decide +kernel
theorem dX1_clipAs_12 : decode cX1_clipAs 12 = .ok (.aload_n 0, 1) := by decide +kernel
theorem dX1_clipAs_13 : decode cX1_clipAs 13 = .ok (.getfield 9, 3) := by decide +kernel
theorem dX1_clipAs_16 : decode cX1_clipAs 16 = .ok (.iload_n 1, 1) := by decide +kernel
theorem dX1_clipAs_17 : decode cX1_clipAs 17 = .ok (.invokevirtual 57, 3) := by decide +kernel
theorem dX1_clipAs_20 : decode cX1_clipAs 20 = .ok (.ifCond .ne 6, 3) := by decide +kernel
theorem dX1_clipAs_23 : decode cX1_clipAs 23 = .ok (.bipush (-2), 2) := by decide +kernel
theorem dX1_clipAs_25 : decode cX1_clipAs 25 = .ok (.ireturn, 1) := by decide +kernel
theorem dX1_clipAs_26 : decode cX1_clipAs 26 = .ok (.aload_n 0, 1) := by decide +kernel
theorem dX1_clipAs_27 : decode cX1_clipAs 27 = .ok (.getfield 9, 3) := by decide +kernel
theorem dX1_clipAs_30 : decode cX1_clipAs 30 = .ok (.getfield 99, 3) := by decide +kernel
theorem dX1_clipAs_33 : decode cX1_clipAs 33 = .ok (.iload_n 1, 1) := by decide +kernel
theorem dX1_clipAs_34 : decode cX1_clipAs 34 = .ok (.iaload, 1) := by decide +kernel
theorem dX1_clipAs_35 : decode cX1_clipAs 35 = .ok (.istore_n 3, 1) := by decide +kernel
theorem dX1_clipAs_36 : decode cX1_clipAs 36 = .ok (.iload_n 3, 1) := by decide +kernel
theorem dX1_clipAs_37 : decode cX1_clipAs 37 = .ok (.iload_n 2, 1) := by decide +kernel
theorem dX1_clipAs_38 : decode cX1_clipAs 38 = .ok (.if_icmp .ne 6, 3) := by decide +kernel
theorem dX1_clipAs_41 : decode cX1_clipAs 41 = .ok (.bipush (-3), 2) := by decide +kernel
theorem dX1_clipAs_43 : decode cX1_clipAs 43 = .ok (.ireturn, 1) := by decide +kernel
theorem dX1_clipAs_44 : decode cX1_clipAs 44 = .ok (.aload_n 0, 1) := by decide +kernel
theorem dX1_clipAs_45 : decode cX1_clipAs 45 = .ok (.getfield 22, 3) := by decide +kernel
theorem dX1_clipAs_48 : decode cX1_clipAs 48 = .ok (.iconst 2, 1) := by decide +kernel
theorem dX1_clipAs_49 : decode cX1_clipAs 49 = .ok (.aload_n 0, 1) := by decide +kernel
theorem dX1_clipAs_50 : decode cX1_clipAs 50 = .ok (.getfield 9, 3) := by decide +kernel
theorem dX1_clipAs_53 : decode cX1_clipAs 53 = .ok (.invokevirtual 49, 3) := by decide +kernel
theorem dX1_clipAs_56 : decode cX1_clipAs 56 = .ok (.aload_n 0, 1) := by decide +kernel
theorem dX1_clipAs_57 : decode cX1_clipAs 57 = .ok (.getfield 9, 3) := by decide +kernel
theorem dX1_clipAs_60 : decode cX1_clipAs 60 = .ok (.getfield 99, 3) := by decide +kernel
theorem dX1_clipAs_63 : decode cX1_clipAs 63 = .ok (.iload_n 1, 1) := by decide +kernel
theorem dX1_clipAs_64 : decode cX1_clipAs 64 = .ok (.iload_n 2, 1) := by decide +kernel
theorem dX1_clipAs_65 : decode cX1_clipAs 65 = .ok (.iastore, 1) := by decide +kernel
theorem dX1_clipAs_66 : decode cX1_clipAs 66 = .ok (.iload_n 3, 1) := by decide +kernel
theorem dX1_clipAs_67 : decode cX1_clipAs 67 = .ok (.ireturn, 1) := by decide +kernel
theorem dX1_takeBack_0 : decode cX1_takeBack 0 = .ok (.aload_n 0, 1) := by decide +kernel
theorem dX1_takeBack_1 : decode cX1_takeBack 1 = .ok (.getfield 22, 3) := by decide +kernel
theorem dX1_takeBack_4 : decode cX1_takeBack 4 = .ok (.aload_n 0, 1) := by decide +kernel
theorem dX1_takeBack_5 : decode cX1_takeBack 5 = .ok (.getfield 9, 3) := by decide +kernel
theorem dX1_takeBack_8 : decode cX1_takeBack 8 = .ok (.invokevirtual 102, 3) := by decide +kernel
theorem dX1_takeBack_11 : decode cX1_takeBack 11 = .ok (.ireturn, 1) := by decide +kernel
theorem dX1_howManyKept_0 : decode cX1_howManyKept 0 = .ok (.aload_n 0, 1) := by decide +kernel
theorem dX1_howManyKept_1 : decode cX1_howManyKept 1 = .ok (.getfield 22, 3) := by decide +kernel
theorem dX1_howManyKept_4 : decode cX1_howManyKept 4 = .ok (.invokevirtual 106, 3) := by decide +kernel
theorem dX1_howManyKept_7 : decode cX1_howManyKept 7 = .ok (.ireturn, 1) := by decide +kernel
theorem dX1_forgetPast_0 : decode cX1_forgetPast 0 = .ok (.aload_n 0, 1) := by decide +kernel
theorem dX1_forgetPast_1 : decode cX1_forgetPast 1 = .ok (.getfield 22, 3) := by decide +kernel
theorem dX1_forgetPast_4 : decode cX1_forgetPast 4 = .ok (.invokevirtual 110, 3) := by decide +kernel
theorem dX1_forgetPast_7 : decode cX1_forgetPast 7 = .ok (.return_, 1) := by decide +kernel
theorem dX1_remember_0 : decode cX1_remember 0 = .ok (.aload_n 0, 1) := by decide +kernel
theorem dX1_remember_1 : decode cX1_remember 1 = .ok (.getfield 29, 3) := by decide +kernel
theorem dX1_remember_4 : decode cX1_remember 4 = .ok (.aload_n 0, 1) := by decide +kernel
theorem dX1_remember_5 : decode cX1_remember 5 = .ok (.getfield 9, 3) := by decide +kernel
theorem dX1_remember_8 : decode cX1_remember 8 = .ok (.invokevirtual 113, 3) := by decide +kernel
theorem dX1_remember_11 : decode cX1_remember 11 = .ok (.aload_n 0, 1) := by decide +kernel
theorem dX1_remember_12 : decode cX1_remember 12 = .ok (.getfield 32, 3) := by decide +kernel
theorem dX1_remember_15 : decode cX1_remember 15 = .ok (.aload_n 0, 1) := by decide +kernel
theorem dX1_remember_16 : decode cX1_remember 16 = .ok (.getfield 22, 3) := by decide +kernel
theorem dX1_remember_19 : decode cX1_remember 19 = .ok (.invokevirtual 117, 3) := by decide +kernel
theorem dX1_remember_22 : decode cX1_remember 22 = .ok (.return_, 1) := by decide +kernel
theorem dX1_restore_0 : decode cX1_restore 0 = .ok (.aload_n 0, 1) := by decide +kernel
theorem dX1_restore_1 : decode cX1_restore 1 = .ok (.getfield 9, 3) := by decide +kernel
theorem dX1_restore_4 : decode cX1_restore 4 = .ok (.aload_n 0, 1) := by decide +kernel
theorem dX1_restore_5 : decode cX1_restore 5 = .ok (.getfield 29, 3) := by decide +kernel
theorem dX1_restore_8 : decode cX1_restore 8 = .ok (.invokevirtual 113, 3) := by decide +kernel
theorem dX1_restore_11 : decode cX1_restore 11 = .ok (.aload_n 0, 1) := by decide +kernel
theorem dX1_restore_12 : decode cX1_restore 12 = .ok (.getfield 22, 3) := by decide +kernel
theorem dX1_restore_15 : decode cX1_restore 15 = .ok (.aload_n 0, 1) := by decide +kernel
theorem dX1_restore_16 : decode cX1_restore 16 = .ok (.getfield 32, 3) := by decide +kernel
theorem dX1_restore_19 : decode cX1_restore 19 = .ok (.invokevirtual 117, 3) := by decide +kernel
theorem dX1_restore_22 : decode cX1_restore 22 = .ok (.return_, 1) := by decide +kernel
theorem dX2_init_0 : decode cX2_init 0 = .ok (.aload_n 0, 1) := by decide +kernel
theorem dX2_init_1 : decode cX2_init 1 = .ok (.invokespecial 3, 3) := by decide +kernel
theorem dX2_init_4 : decode cX2_init 4 = .ok (.aload_n 0, 1) := by decide +kernel
theorem dX2_init_5 : decode cX2_init 5 = .ok (.aload_n 1, 1) := by decide +kernel
theorem dX2_init_6 : decode cX2_init 6 = .ok (.putfield 9, 3) := by decide +kernel
theorem dX2_init_9 : decode cX2_init 9 = .ok (.aload_n 0, 1) := by decide +kernel
theorem dX2_init_10 : decode cX2_init 10 = .ok (.sipush 4608, 3) := by decide +kernel
theorem dX2_init_13 : decode cX2_init 13 = .ok (.newarray .long, 2) := by decide +kernel
theorem dX2_init_15 : decode cX2_init 15 = .ok (.putfield 15, 3) := by decide +kernel
theorem dX2_init_18 : decode cX2_init 18 = .ok (.aload_n 0, 1) := by decide +kernel
theorem dX2_init_19 : decode cX2_init 19 = .ok (.bipush 81, 2) := by decide +kernel
theorem dX2_init_21 : decode cX2_init 21 = .ok (.newarray .int, 2) := by decide +kernel
theorem dX2_init_23 : decode cX2_init 23 = .ok (.putfield 19, 3) := by decide +kernel
theorem dX2_init_26 : decode cX2_init 26 = .ok (.aload_n 0, 1) := by decide +kernel
theorem dX2_init_27 : decode cX2_init 27 = .ok (.bipush 81, 2) := by decide +kernel
theorem dX2_init_29 : decode cX2_init 29 = .ok (.newarray .int, 2) := by decide +kernel
theorem dX2_init_31 : decode cX2_init 31 = .ok (.putfield 23, 3) := by decide +kernel
theorem dX2_init_34 : decode cX2_init 34 = .ok (.aload_n 0, 1) := by decide +kernel
theorem dX2_init_35 : decode cX2_init 35 = .ok (.bipush 9, 2) := by decide +kernel
theorem dX2_init_37 : decode cX2_init 37 = .ok (.newarray .int, 2) := by decide +kernel
theorem dX2_init_39 : decode cX2_init 39 = .ok (.putfield 26, 3) := by decide +kernel
theorem dX2_init_42 : decode cX2_init 42 = .ok (.aload_n 0, 1) := by decide +kernel
theorem dX2_init_43 : decode cX2_init 43 = .ok (.bipush 10, 2) := by decide +kernel
theorem dX2_init_45 : decode cX2_init 45 = .ok (.newarray .long, 2) := by decide +kernel
theorem dX2_init_47 : decode cX2_init 47 = .ok (.putfield 29, 3) := by decide +kernel
theorem dX2_init_50 : decode cX2_init 50 = .ok (.return_, 1) := by decide +kernel
theorem dX2_hadBy_0 : decode cX2_hadBy 0 = .ok (.aload_n 0, 1) := by decide +kernel
theorem dX2_hadBy_1 : decode cX2_hadBy 1 = .ok (.aload_n 1, 1) := by decide +kernel
theorem dX2_hadBy_2 : decode cX2_hadBy 2 = .ok (.iload_n 2, 1) := by decide +kernel
theorem dX2_hadBy_3 : decode cX2_hadBy 3 = .ok (.iload_n 3, 1) := by decide +kernel
theorem dX2_hadBy_4 : decode cX2_hadBy 4 = .ok (.invokevirtual 32, 3) := by decide +kernel
theorem dX2_hadBy_7 : decode cX2_hadBy 7 = .ok (.aload_n 0, 1) := by decide +kernel
theorem dX2_hadBy_8 : decode cX2_hadBy 8 = .ok (.getfield 15, 3) := by decide +kernel
theorem dX2_hadBy_11 : decode cX2_hadBy 11 = .ok (.aload_n 1, 1) := by decide +kernel
theorem dX2_hadBy_12 : decode cX2_hadBy 12 = .ok (.getfield 36, 3) := by decide +kernel
theorem dX2_hadBy_15 : decode cX2_hadBy 15 = .ok (.iload_n 2, 1) := by decide +kernel
theorem dX2_hadBy_16 : decode cX2_hadBy 16 = .ok (.iaload, 1) := by decide +kernel
theorem dX2_hadBy_17 : decode cX2_hadBy 17 = .ok (.bipush 9, 2) := by decide +kernel
theorem dX2_hadBy_19 : decode cX2_hadBy 19 = .ok (.imul, 1) := by decide +kernel
theorem dX2_hadBy_20 : decode cX2_hadBy 20 = .ok (.aload_n 1, 1) := by decide +kernel
theorem dX2_hadBy_21 : decode cX2_hadBy 21 = .ok (.getfield 41, 3) := by decide +kernel
theorem dX2_hadBy_24 : decode cX2_hadBy 24 = .ok (.iload_n 2, 1) := by decide +kernel
theorem dX2_hadBy_25 : decode cX2_hadBy 25 = .ok (.iaload, 1) := by decide +kernel
theorem dX2_hadBy_26 : decode cX2_hadBy 26 = .ok (.iadd, 1) := by decide +kernel
theorem dX2_hadBy_27 : decode cX2_hadBy 27 = .ok (.laload, 1) := by decide +kernel
theorem dX2_hadBy_28 : decode cX2_hadBy 28 = .ok (.lreturn, 1) := by decide +kernel
theorem dX2_bestNext_0 : decode cX2_bestNext 0 = .ok (.aload_n 0, 1) := by decide +kernel
theorem dX2_bestNext_1 : decode cX2_bestNext 1 = .ok (.aload_n 1, 1) := by decide +kernel
theorem dX2_bestNext_2 : decode cX2_bestNext 2 = .ok (.iload_n 2, 1) := by decide +kernel
theorem dX2_bestNext_3 : decode cX2_bestNext 3 = .ok (.iload_n 3, 1) := by decide +kernel
theorem dX2_bestNext_4 : decode cX2_bestNext 4 = .ok (.invokevirtual 32, 3) := by decide +kernel
theorem dX2_bestNext_7 : decode cX2_bestNext 7 = .ok (.aload_n 1, 1) := by decide +kernel
theorem dX2_bestNext_8 : decode cX2_bestNext 8 = .ok (.getfield 36, 3) := by decide +kernel
theorem dX2_bestNext_11 : decode cX2_bestNext 11 = .ok (.iload_n 2, 1) := by decide +kernel
theorem dX2_bestNext_12 : decode cX2_bestNext 12 = .ok (.iaload, 1) := by decide +kernel
theorem dX2_bestNext_13 : decode cX2_bestNext 13 = .ok (.istore 4, 2) := by decide +kernel
theorem dX2_bestNext_15 : decode cX2_bestNext 15 = .ok (.iconst (-1), 1) := by decide +kernel
theorem dX2_bestNext_16 : decode cX2_bestNext 16 = .ok (.istore 5, 2) := by decide +kernel
theorem dX2_bestNext_18 : decode cX2_bestNext 18 = .ok (.ldc2_w 44, 3) := by decide +kernel
theorem dX2_bestNext_21 : decode cX2_bestNext 21 = .ok (.lstore 6, 2) := by decide +kernel
theorem dX2_bestNext_23 : decode cX2_bestNext 23 = .ok (.iconst 0, 1) := by decide +kernel
theorem dX2_bestNext_24 : decode cX2_bestNext 24 = .ok (.istore 8, 2) := by decide +kernel
theorem dX2_bestNext_26 : decode cX2_bestNext 26 = .ok (.iload 8, 2) := by decide +kernel
theorem dX2_bestNext_28 : decode cX2_bestNext 28 = .ok (.bipush 9, 2) := by decide +kernel
theorem dX2_bestNext_30 : decode cX2_bestNext 30 = .ok (.if_icmp .ge 57, 3) := by decide +kernel
theorem dX2_bestNext_33 : decode cX2_bestNext 33 = .ok (.iload 4, 2) := by decide +kernel
theorem dX2_bestNext_35 : decode cX2_bestNext 35 = .ok (.iload 8, 2) := by decide +kernel
theorem dX2_bestNext_37 : decode cX2_bestNext 37 = .ok (.invokestatic 46, 3) := by decide +kernel
theorem dX2_bestNext_40 : decode cX2_bestNext 40 = .ok (.ifCond .eq 41, 3) := by decide +kernel
theorem dX2_bestNext_43 : decode cX2_bestNext 43 = .ok (.aload_n 0, 1) := by decide +kernel
theorem dX2_bestNext_44 : decode cX2_bestNext 44 = .ok (.getfield 15, 3) := by decide +kernel
theorem dX2_bestNext_47 : decode cX2_bestNext 47 = .ok (.iload 4, 2) := by decide +kernel
theorem dX2_bestNext_49 : decode cX2_bestNext 49 = .ok (.iconst 1, 1) := by decide +kernel
theorem dX2_bestNext_50 : decode cX2_bestNext 50 = .ok (.iload 8, 2) := by decide +kernel
theorem dX2_bestNext_52 : decode cX2_bestNext 52 = .ok (.ishl, 1) := by decide +kernel
theorem dX2_bestNext_53 : decode cX2_bestNext 53 = .ok (.iconst (-1), 1) := by decide +kernel
theorem dX2_bestNext_54 : decode cX2_bestNext 54 = .ok (.ixor, 1) := by decide +kernel
theorem dX2_bestNext_55 : decode cX2_bestNext 55 = .ok (.iand, 1) := by decide +kernel
theorem dX2_bestNext_56 : decode cX2_bestNext 56 = .ok (.bipush 9, 2) := by decide +kernel
theorem dX2_bestNext_58 : decode cX2_bestNext 58 = .ok (.imul, 1) := by decide +kernel
theorem dX2_bestNext_59 : decode cX2_bestNext 59 = .ok (.iload 8, 2) := by decide +kernel
theorem dX2_bestNext_61 : decode cX2_bestNext 61 = .ok (.iadd, 1) := by decide +kernel
theorem dX2_bestNext_62 : decode cX2_bestNext 62 = .ok (.laload, 1) := by decide +kernel
theorem dX2_bestNext_63 : decode cX2_bestNext 63 = .ok (.lstore 9, 2) := by decide +kernel
theorem dX2_bestNext_65 : decode cX2_bestNext 65 = .ok (.lload 9, 2) := by decide +kernel
theorem dX2_bestNext_67 : decode cX2_bestNext 67 = .ok (.lload 6, 2) := by decide +kernel
theorem dX2_bestNext_69 : decode cX2_bestNext 69 = .ok (.lcmp, 1) := by decide +kernel
theorem dX2_bestNext_70 : decode cX2_bestNext 70 = .ok (.ifCond .le 11, 3) := by decide +kernel
theorem dX2_bestNext_73 : decode cX2_bestNext 73 = .ok (.lload 9, 2) := by decide +kernel
theorem dX2_bestNext_75 : decode cX2_bestNext 75 = .ok (.lstore 6, 2) := by decide +kernel
theorem dX2_bestNext_77 : decode cX2_bestNext 77 = .ok (.iload 8, 2) := by decide +kernel
theorem dX2_bestNext_79 : decode cX2_bestNext 79 = .ok (.istore 5, 2) := by decide +kernel
theorem dX2_bestNext_81 : decode cX2_bestNext 81 = .ok (.iinc 8 1, 3) := by decide +kernel
theorem dX2_bestNext_84 : decode cX2_bestNext 84 = .ok (.goto (-58), 3) := by decide +kernel
theorem dX2_bestNext_87 : decode cX2_bestNext 87 = .ok (.iload 5, 2) := by decide +kernel
theorem dX2_bestNext_89 : decode cX2_bestNext 89 = .ok (.ireturn, 1) := by decide +kernel
theorem dX2_reckonYears_0 : decode cX2_reckonYears 0 = .ok (.aload_n 1, 1) := by decide +kernel
theorem dX2_reckonYears_1 : decode cX2_reckonYears 1 = .ok (.getfield 36, 3) := by decide +kernel
theorem dX2_reckonYears_4 : decode cX2_reckonYears 4 = .ok (.iload_n 2, 1) := by decide +kernel
theorem dX2_reckonYears_5 : decode cX2_reckonYears 5 = .ok (.iaload, 1) := by decide +kernel
theorem dX2_reckonYears_6 : decode cX2_reckonYears 6 = .ok (.istore 4, 2) := by decide +kernel
theorem dX2_reckonYears_8 : decode cX2_reckonYears 8 = .ok (.aload_n 1, 1) := by decide +kernel
theorem dX2_reckonYears_9 : decode cX2_reckonYears 9 = .ok (.getfield 41, 3) := by decide +kernel
theorem dX2_reckonYears_12 : decode cX2_reckonYears 12 = .ok (.iload_n 2, 1) := by decide +kernel
theorem dX2_reckonYears_13 : decode cX2_reckonYears 13 = .ok (.iaload, 1) := by decide +kernel
theorem dX2_reckonYears_14 : decode cX2_reckonYears 14 = .ok (.istore 5, 2) := by decide +kernel
theorem dX2_reckonYears_16 : decode cX2_reckonYears 16 = .ok (.aload_n 0, 1) := by decide +kernel
theorem dX2_reckonYears_17 : decode cX2_reckonYears 17 = .ok (.aload_n 1, 1) := by decide +kernel
theorem dX2_reckonYears_18 : decode cX2_reckonYears 18 = .ok (.iload_n 2, 1) := by decide +kernel
theorem dX2_reckonYears_19 : decode cX2_reckonYears 19 = .ok (.invokevirtual 50, 3) := by decide +kernel
theorem dX2_reckonYears_22 : decode cX2_reckonYears 22 = .ok (.aload_n 0, 1) := by decide +kernel
theorem dX2_reckonYears_23 : decode cX2_reckonYears 23 = .ok (.getfield 15, 3) := by decide +kernel
theorem dX2_reckonYears_26 : decode cX2_reckonYears 26 = .ok (.lconst 0, 1) := by decide +kernel
theorem dX2_reckonYears_27 : decode cX2_reckonYears 27 = .ok (.invokestatic 54, 3) := by decide +kernel
theorem dX2_reckonYears_30 : decode cX2_reckonYears 30 = .ok (.iconst 0, 1) := by decide +kernel
theorem dX2_reckonYears_31 : decode cX2_reckonYears 31 = .ok (.istore 6, 2) := by decide +kernel
theorem dX2_reckonYears_33 : decode cX2_reckonYears 33 = .ok (.iload 6, 2) := by decide +kernel
theorem dX2_reckonYears_35 : decode cX2_reckonYears 35 = .ok (.iload_n 3, 1) := by decide +kernel
theorem dX2_reckonYears_36 : decode cX2_reckonYears 36 = .ok (.if_icmp .ge 21, 3) := by decide +kernel
theorem dX2_reckonYears_39 : decode cX2_reckonYears 39 = .ok (.aload_n 0, 1) := by decide +kernel
theorem dX2_reckonYears_40 : decode cX2_reckonYears 40 = .ok (.iload 4, 2) := by decide +kernel
theorem dX2_reckonYears_42 : decode cX2_reckonYears 42 = .ok (.iload 5, 2) := by decide +kernel
theorem dX2_reckonYears_44 : decode cX2_reckonYears 44 = .ok (.iload_n 3, 1) := by decide +kernel
theorem dX2_reckonYears_45 : decode cX2_reckonYears 45 = .ok (.iload 6, 2) := by decide +kernel
theorem dX2_reckonYears_47 : decode cX2_reckonYears 47 = .ok (.isub, 1) := by decide +kernel
theorem dX2_reckonYears_48 : decode cX2_reckonYears 48 = .ok (.invokevirtual 60, 3) := by decide +kernel
theorem dX2_reckonYears_51 : decode cX2_reckonYears 51 = .ok (.iinc 6 1, 3) := by decide +kernel
theorem dX2_reckonYears_54 : decode cX2_reckonYears 54 = .ok (.goto (-21), 3) := by decide +kernel
theorem dX2_reckonYears_57 : decode cX2_reckonYears 57 = .ok (.return_, 1) := by decide +kernel
theorem dX2_askOfLives_0 : decode cX2_askOfLives 0 = .ok (.aload_n 1, 1) := by decide +kernel
theorem dX2_askOfLives_1 : decode cX2_askOfLives 1 = .ok (.iload_n 2, 1) := by decide +kernel
theorem dX2_askOfLives_2 : decode cX2_askOfLives 2 = .ok (.invokevirtual 64, 3) := by decide +kernel
theorem dX2_askOfLives_5 : decode cX2_askOfLives 5 = .ok (.istore_n 3, 1) := by decide +kernel
theorem dX2_askOfLives_6 : decode cX2_askOfLives 6 = .ok (.aload_n 0, 1) := by decide +kernel
theorem dX2_askOfLives_7 : decode cX2_askOfLives 7 = .ok (.getfield 9, 3) := by decide +kernel
theorem dX2_askOfLives_10 : decode cX2_askOfLives 10 = .ok (.aload_n 1, 1) := by decide +kernel
theorem dX2_askOfLives_11 : decode cX2_askOfLives 11 = .ok (.iload_n 2, 1) := by decide +kernel
theorem dX2_askOfLives_12 : decode cX2_askOfLives 12 = .ok (.invokevirtual 68, 3) := by decide +kernel
theorem dX2_askOfLives_15 : decode cX2_askOfLives 15 = .ok (.iconst 0, 1) := by decide +kernel
theorem dX2_askOfLives_16 : decode cX2_askOfLives 16 = .ok (.istore 4, 2) := by decide +kernel
theorem dX2_askOfLives_18 : decode cX2_askOfLives 18 = .ok (.iload 4, 2) := by decide +kernel
theorem dX2_askOfLives_20 : decode cX2_askOfLives 20 = .ok (.bipush 9, 2) := by decide +kernel
theorem dX2_askOfLives_22 : decode cX2_askOfLives 22 = .ok (.if_icmp .ge 143, 3) := by decide +kernel
theorem dX2_askOfLives_25 : decode cX2_askOfLives 25 = .ok (.iload_n 3, 1) := by decide +kernel
theorem dX2_askOfLives_26 : decode cX2_askOfLives 26 = .ok (.istore 5, 2) := by decide +kernel
theorem dX2_askOfLives_28 : decode cX2_askOfLives 28 = .ok (.iload 5, 2) := by decide +kernel
theorem dX2_askOfLives_30 : decode cX2_askOfLives 30 = .ok (.bipush 9, 2) := by decide +kernel
theorem dX2_askOfLives_32 : decode cX2_askOfLives 32 = .ok (.if_icmp .ge 127, 3) := by decide +kernel
theorem dX2_askOfLives_35 : decode cX2_askOfLives 35 = .ok (.iload 4, 2) := by decide +kernel
theorem dX2_askOfLives_37 : decode cX2_askOfLives 37 = .ok (.aload_n 1, 1) := by decide +kernel
theorem dX2_askOfLives_38 : decode cX2_askOfLives 38 = .ok (.getfield 41, 3) := by decide +kernel
theorem dX2_askOfLives_41 : decode cX2_askOfLives 41 = .ok (.iload_n 2, 1) := by decide +kernel
theorem dX2_askOfLives_42 : decode cX2_askOfLives 42 = .ok (.iaload, 1) := by decide +kernel
theorem dX2_askOfLives_43 : decode cX2_askOfLives 43 = .ok (.if_icmp .ne 13, 3) := by decide +kernel
theorem dX2_askOfLives_46 : decode cX2_askOfLives 46 = .ok (.iload 5, 2) := by decide +kernel
theorem dX2_askOfLives_48 : decode cX2_askOfLives 48 = .ok (.iload_n 3, 1) := by decide +kernel
theorem dX2_askOfLives_49 : decode cX2_askOfLives 49 = .ok (.if_icmp .ne 7, 3) := by decide +kernel
theorem dX2_askOfLives_52 : decode cX2_askOfLives 52 = .ok (.iconst 1, 1) := by decide +kernel
theorem dX2_askOfLives_53 : decode cX2_askOfLives 53 = .ok (.goto 4, 3) := by decide +kernel
theorem dX2_askOfLives_56 : decode cX2_askOfLives 56 = .ok (.iconst 0, 1) := by decide +kernel
theorem dX2_askOfLives_57 : decode cX2_askOfLives 57 = .ok (.istore 6, 2) := by decide +kernel
theorem dX2_askOfLives_59 : decode cX2_askOfLives 59 = .ok (.aload_n 1, 1) := by decide +kernel
theorem dX2_askOfLives_60 : decode cX2_askOfLives 60 = .ok (.getfield 36, 3) := by decide +kernel
theorem dX2_askOfLives_63 : decode cX2_askOfLives 63 = .ok (.iload_n 2, 1) := by decide +kernel
theorem dX2_askOfLives_64 : decode cX2_askOfLives 64 = .ok (.iaload, 1) := by decide +kernel
theorem dX2_askOfLives_65 : decode cX2_askOfLives 65 = .ok (.iload 4, 2) := by decide +kernel
theorem dX2_askOfLives_67 : decode cX2_askOfLives 67 = .ok (.invokestatic 46, 3) := by decide +kernel
theorem dX2_askOfLives_70 : decode cX2_askOfLives 70 = .ok (.ifCond .eq 13, 3) := by decide +kernel
theorem dX2_askOfLives_73 : decode cX2_askOfLives 73 = .ok (.iload 5, 2) := by decide +kernel
theorem dX2_askOfLives_75 : decode cX2_askOfLives 75 = .ok (.iload_n 3, 1) := by decide +kernel
theorem dX2_askOfLives_76 : decode cX2_askOfLives 76 = .ok (.if_icmp .le 7, 3) := by decide +kernel
theorem dX2_askOfLives_79 : decode cX2_askOfLives 79 = .ok (.iconst 1, 1) := by decide +kernel
theorem dX2_askOfLives_80 : decode cX2_askOfLives 80 = .ok (.goto 4, 3) := by decide +kernel
theorem dX2_askOfLives_83 : decode cX2_askOfLives 83 = .ok (.iconst 0, 1) := by decide +kernel
theorem dX2_askOfLives_84 : decode cX2_askOfLives 84 = .ok (.istore 7, 2) := by decide +kernel
theorem dX2_askOfLives_86 : decode cX2_askOfLives 86 = .ok (.iload 6, 2) := by decide +kernel
theorem dX2_askOfLives_88 : decode cX2_askOfLives 88 = .ok (.ifCond .ne 8, 3) := by decide +kernel
theorem dX2_askOfLives_91 : decode cX2_askOfLives 91 = .ok (.iload 7, 2) := by decide +kernel
theorem dX2_askOfLives_93 : decode cX2_askOfLives 93 = .ok (.ifCond .eq 60, 3) := by decide +kernel
theorem dX2_askOfLives_96 : decode cX2_askOfLives 96 = .ok (.aload_n 0, 1) := by decide +kernel
theorem dX2_askOfLives_97 : decode cX2_askOfLives 97 = .ok (.getfield 9, 3) := by decide +kernel
theorem dX2_askOfLives_100 : decode cX2_askOfLives 100 = .ok (.iload 4, 2) := by decide +kernel
theorem dX2_askOfLives_102 : decode cX2_askOfLives 102 = .ok (.iload 5, 2) := by decide +kernel
theorem dX2_askOfLives_104 : decode cX2_askOfLives 104 = .ok (.invokevirtual 73, 3) := by decide +kernel
theorem dX2_askOfLives_107 : decode cX2_askOfLives 107 = .ok (.aload_n 0, 1) := by decide +kernel
theorem dX2_askOfLives_108 : decode cX2_askOfLives 108 = .ok (.getfield 19, 3) := by decide +kernel
theorem dX2_askOfLives_111 : decode cX2_askOfLives 111 = .ok (.iload 4, 2) := by decide +kernel
theorem dX2_askOfLives_113 : decode cX2_askOfLives 113 = .ok (.bipush 9, 2) := by decide +kernel
theorem dX2_askOfLives_115 : decode cX2_askOfLives 115 = .ok (.imul, 1) := by decide +kernel
theorem dX2_askOfLives_116 : decode cX2_askOfLives 116 = .ok (.iload 5, 2) := by decide +kernel
theorem dX2_askOfLives_118 : decode cX2_askOfLives 118 = .ok (.iadd, 1) := by decide +kernel
theorem dX2_askOfLives_119 : decode cX2_askOfLives 119 = .ok (.aload_n 0, 1) := by decide +kernel
theorem dX2_askOfLives_120 : decode cX2_askOfLives 120 = .ok (.getfield 9, 3) := by decide +kernel
theorem dX2_askOfLives_123 : decode cX2_askOfLives 123 = .ok (.sipush 263, 3) := by decide +kernel
theorem dX2_askOfLives_126 : decode cX2_askOfLives 126 = .ok (.invokevirtual 77, 3) := by decide +kernel
theorem dX2_askOfLives_129 : decode cX2_askOfLives 129 = .ok (.iastore, 1) := by decide +kernel
theorem dX2_askOfLives_130 : decode cX2_askOfLives 130 = .ok (.aload_n 0, 1) := by decide +kernel
theorem dX2_askOfLives_131 : decode cX2_askOfLives 131 = .ok (.getfield 23, 3) := by decide +kernel
theorem dX2_askOfLives_134 : decode cX2_askOfLives 134 = .ok (.iload 4, 2) := by decide +kernel
theorem dX2_askOfLives_136 : decode cX2_askOfLives 136 = .ok (.bipush 9, 2) := by decide +kernel
theorem dX2_askOfLives_138 : decode cX2_askOfLives 138 = .ok (.imul, 1) := by decide +kernel
theorem dX2_askOfLives_139 : decode cX2_askOfLives 139 = .ok (.iload 5, 2) := by decide +kernel
theorem dX2_askOfLives_141 : decode cX2_askOfLives 141 = .ok (.iadd, 1) := by decide +kernel
theorem dX2_askOfLives_142 : decode cX2_askOfLives 142 = .ok (.aload_n 0, 1) := by decide +kernel
theorem dX2_askOfLives_143 : decode cX2_askOfLives 143 = .ok (.getfield 9, 3) := by decide +kernel
theorem dX2_askOfLives_146 : decode cX2_askOfLives 146 = .ok (.sipush 264, 3) := by decide +kernel
theorem dX2_askOfLives_149 : decode cX2_askOfLives 149 = .ok (.invokevirtual 77, 3) := by decide +kernel
theorem dX2_askOfLives_152 : decode cX2_askOfLives 152 = .ok (.iastore, 1) := by decide +kernel
theorem dX2_askOfLives_153 : decode cX2_askOfLives 153 = .ok (.iinc 5 1, 3) := by decide +kernel
theorem dX2_askOfLives_156 : decode cX2_askOfLives 156 = .ok (.goto (-128), 3) := by decide +kernel
theorem dX2_askOfLives_159 : decode cX2_askOfLives 159 = .ok (.iinc 4 1, 3) := by decide +kernel
theorem dX2_askOfLives_162 : decode cX2_askOfLives 162 = .ok (.goto (-144), 3) := by decide +kernel
theorem dX2_askOfLives_165 : decode cX2_askOfLives 165 = .ok (.return_, 1) := by decide +kernel
theorem dX2_addYear_0 : decode cX2_addYear 0 = .ok (.iload_n 1, 1) := by decide +kernel
theorem dX2_addYear_1 : decode cX2_addYear 1 = .ok (.istore 4, 2) := by decide +kernel
theorem dX2_addYear_3 : decode cX2_addYear 3 = .ok (.iload 4, 2) := by decide +kernel
theorem dX2_addYear_5 : decode cX2_addYear 5 = .ok (.ifCond .lt 69, 3) := by decide +kernel
theorem dX2_addYear_8 : decode cX2_addYear 8 = .ok (.iload 4, 2) := by decide +kernel
theorem dX2_addYear_10 : decode cX2_addYear 10 = .ok (.iload_n 1, 1) := by decide +kernel
theorem dX2_addYear_11 : decode cX2_addYear 11 = .ok (.iconst (-1), 1) := by decide +kernel
theorem dX2_addYear_12 : decode cX2_addYear 12 = .ok (.ixor, 1) := by decide +kernel
theorem dX2_addYear_13 : decode cX2_addYear 13 = .ok (.iand, 1) := by decide +kernel
theorem dX2_addYear_14 : decode cX2_addYear 14 = .ok (.ifCond .ne 54, 3) := by decide +kernel
theorem dX2_addYear_17 : decode cX2_addYear 17 = .ok (.iload_n 1, 1) := by decide +kernel
theorem dX2_addYear_18 : decode cX2_addYear 18 = .ok (.iload 4, 2) := by decide +kernel
theorem dX2_addYear_20 : decode cX2_addYear 20 = .ok (.iconst (-1), 1) := by decide +kernel
theorem dX2_addYear_21 : decode cX2_addYear 21 = .ok (.ixor, 1) := by decide +kernel
theorem dX2_addYear_22 : decode cX2_addYear 22 = .ok (.iand, 1) := by decide +kernel
theorem dX2_addYear_23 : decode cX2_addYear 23 = .ok (.invokestatic 80, 3) := by decide +kernel
theorem dX2_addYear_26 : decode cX2_addYear 26 = .ok (.iload_n 3, 1) := by decide +kernel
theorem dX2_addYear_27 : decode cX2_addYear 27 = .ok (.if_icmp .gt 41, 3) := by decide +kernel
theorem dX2_addYear_30 : decode cX2_addYear 30 = .ok (.aload_n 0, 1) := by decide +kernel
theorem dX2_addYear_31 : decode cX2_addYear 31 = .ok (.iload 4, 2) := by decide +kernel
theorem dX2_addYear_33 : decode cX2_addYear 33 = .ok (.invokevirtual 85, 3) := by decide +kernel
theorem dX2_addYear_36 : decode cX2_addYear 36 = .ok (.lstore 5, 2) := by decide +kernel
theorem dX2_addYear_38 : decode cX2_addYear 38 = .ok (.iload 4, 2) := by decide +kernel
theorem dX2_addYear_40 : decode cX2_addYear 40 = .ok (.iload_n 1, 1) := by decide +kernel
theorem dX2_addYear_41 : decode cX2_addYear 41 = .ok (.if_icmp .ne 9, 3) := by decide +kernel
theorem dX2_addYear_44 : decode cX2_addYear 44 = .ok (.iconst 1, 1) := by decide +kernel
theorem dX2_addYear_45 : decode cX2_addYear 45 = .ok (.iload_n 2, 1) := by decide +kernel
theorem dX2_addYear_46 : decode cX2_addYear 46 = .ok (.ishl, 1) := by decide +kernel
theorem dX2_addYear_47 : decode cX2_addYear 47 = .ok (.goto 9, 3) := by decide +kernel
theorem dX2_addYear_50 : decode cX2_addYear 50 = .ok (.iload_n 1, 1) := by decide +kernel
theorem dX2_addYear_51 : decode cX2_addYear 51 = .ok (.iload 4, 2) := by decide +kernel
theorem dX2_addYear_53 : decode cX2_addYear 53 = .ok (.iconst (-1), 1) := by decide +kernel
theorem dX2_addYear_54 : decode cX2_addYear 54 = .ok (.ixor, 1) := by decide +kernel
theorem dX2_addYear_55 : decode cX2_addYear 55 = .ok (.iand, 1) := by decide +kernel
theorem dX2_addYear_56 : decode cX2_addYear 56 = .ok (.istore 7, 2) := by decide +kernel
theorem dX2_addYear_58 : decode cX2_addYear 58 = .ok (.aload_n 0, 1) := by decide +kernel
theorem dX2_addYear_59 : decode cX2_addYear 59 = .ok (.iload 4, 2) := by decide +kernel
theorem dX2_addYear_61 : decode cX2_addYear 61 = .ok (.iload 7, 2) := by decide +kernel
theorem dX2_addYear_63 : decode cX2_addYear 63 = .ok (.lload 5, 2) := by decide +kernel
theorem dX2_addYear_65 : decode cX2_addYear 65 = .ok (.invokevirtual 89, 3) := by decide +kernel
theorem dX2_addYear_68 : decode cX2_addYear 68 = .ok (.iinc 4 (-1), 3) := by decide +kernel
theorem dX2_addYear_71 : decode cX2_addYear 71 = .ok (.goto (-68), 3) := by decide +kernel
theorem dX2_addYear_74 : decode cX2_addYear 74 = .ok (.return_, 1) := by decide +kernel
theorem dX2_mostByNext_0 : decode cX2_mostByNext 0 = .ok (.lconst 0, 1) := by decide +kernel
theorem dX2_mostByNext_1 : decode cX2_mostByNext 1 = .ok (.lstore_n 2, 1) := by decide +kernel
theorem dX2_mostByNext_2 : decode cX2_mostByNext 2 = .ok (.iconst 0, 1) := by decide +kernel
theorem dX2_mostByNext_3 : decode cX2_mostByNext 3 = .ok (.istore 4, 2) := by decide +kernel
theorem dX2_mostByNext_5 : decode cX2_mostByNext 5 = .ok (.iload 4, 2) := by decide +kernel
theorem dX2_mostByNext_7 : decode cX2_mostByNext 7 = .ok (.bipush 9, 2) := by decide +kernel
theorem dX2_mostByNext_9 : decode cX2_mostByNext 9 = .ok (.if_icmp .ge 42, 3) := by decide +kernel
theorem dX2_mostByNext_12 : decode cX2_mostByNext 12 = .ok (.iload_n 1, 1) := by decide +kernel
theorem dX2_mostByNext_13 : decode cX2_mostByNext 13 = .ok (.iload 4, 2) := by decide +kernel
theorem dX2_mostByNext_15 : decode cX2_mostByNext 15 = .ok (.invokestatic 46, 3) := by decide +kernel
theorem dX2_mostByNext_18 : decode cX2_mostByNext 18 = .ok (.ifCond .eq 27, 3) := by decide +kernel
theorem dX2_mostByNext_21 : decode cX2_mostByNext 21 = .ok (.lload_n 2, 1) := by decide +kernel
theorem dX2_mostByNext_22 : decode cX2_mostByNext 22 = .ok (.aload_n 0, 1) := by decide +kernel
theorem dX2_mostByNext_23 : decode cX2_mostByNext 23 = .ok (.getfield 15, 3) := by decide +kernel
theorem dX2_mostByNext_26 : decode cX2_mostByNext 26 = .ok (.iload_n 1, 1) := by decide +kernel
theorem dX2_mostByNext_27 : decode cX2_mostByNext 27 = .ok (.iconst 1, 1) := by decide +kernel
theorem dX2_mostByNext_28 : decode cX2_mostByNext 28 = .ok (.iload 4, 2) := by decide +kernel
theorem dX2_mostByNext_30 : decode cX2_mostByNext 30 = .ok (.ishl, 1) := by decide +kernel
theorem dX2_mostByNext_31 : decode cX2_mostByNext 31 = .ok (.iconst (-1), 1) := by decide +kernel
theorem dX2_mostByNext_32 : decode cX2_mostByNext 32 = .ok (.ixor, 1) := by decide +kernel
theorem dX2_mostByNext_33 : decode cX2_mostByNext 33 = .ok (.iand, 1) := by decide +kernel
theorem dX2_mostByNext_34 : decode cX2_mostByNext 34 = .ok (.bipush 9, 2) := by decide +kernel
theorem dX2_mostByNext_36 : decode cX2_mostByNext 36 = .ok (.imul, 1) := by decide +kernel
theorem dX2_mostByNext_37 : decode cX2_mostByNext 37 = .ok (.iload 4, 2) := by decide +kernel
theorem dX2_mostByNext_39 : decode cX2_mostByNext 39 = .ok (.iadd, 1) := by decide +kernel
theorem dX2_mostByNext_40 : decode cX2_mostByNext 40 = .ok (.laload, 1) := by decide +kernel
theorem dX2_mostByNext_41 : decode cX2_mostByNext 41 = .ok (.invokestatic 93, 3) := by decide +kernel
theorem dX2_mostByNext_44 : decode cX2_mostByNext 44 = .ok (.lstore_n 2, 1) := by decide +kernel
theorem dX2_mostByNext_45 : decode cX2_mostByNext 45 = .ok (.iinc 4 1, 3) := by decide +kernel
theorem dX2_mostByNext_48 : decode cX2_mostByNext 48 = .ok (.goto (-43), 3) := by decide +kernel
theorem dX2_mostByNext_51 : decode cX2_mostByNext 51 = .ok (.lload_n 2, 1) := by decide +kernel
theorem dX2_mostByNext_52 : decode cX2_mostByNext 52 = .ok (.lreturn, 1) := by decide +kernel
theorem dX2_addYearAt_0 : decode cX2_addYearAt 0 = .ok (.bipush 8, 2) := by decide +kernel
theorem dX2_addYearAt_2 : decode cX2_addYearAt 2 = .ok (.iload_n 1, 1) := by decide +kernel
theorem dX2_addYearAt_3 : decode cX2_addYearAt 3 = .ok (.invokestatic 80, 3) := by decide +kernel
theorem dX2_addYearAt_6 : decode cX2_addYearAt 6 = .ok (.isub, 1) := by decide +kernel
theorem dX2_addYearAt_7 : decode cX2_addYearAt 7 = .ok (.istore 5, 2) := by decide +kernel
theorem dX2_addYearAt_9 : decode cX2_addYearAt 9 = .ok (.iconst 0, 1) := by decide +kernel
theorem dX2_addYearAt_10 : decode cX2_addYearAt 10 = .ok (.istore 6, 2) := by decide +kernel
theorem dX2_addYearAt_12 : decode cX2_addYearAt 12 = .ok (.iload 6, 2) := by decide +kernel
theorem dX2_addYearAt_14 : decode cX2_addYearAt 14 = .ok (.bipush 9, 2) := by decide +kernel
theorem dX2_addYearAt_16 : decode cX2_addYearAt 16 = .ok (.if_icmp .ge 105, 3) := by decide +kernel
theorem dX2_addYearAt_19 : decode cX2_addYearAt 19 = .ok (.iload 5, 2) := by decide +kernel
theorem dX2_addYearAt_21 : decode cX2_addYearAt 21 = .ok (.ifCond .lt 100, 3) := by decide +kernel
theorem dX2_addYearAt_24 : decode cX2_addYearAt 24 = .ok (.iload_n 2, 1) := by decide +kernel
theorem dX2_addYearAt_25 : decode cX2_addYearAt 25 = .ok (.iload 6, 2) := by decide +kernel
theorem dX2_addYearAt_27 : decode cX2_addYearAt 27 = .ok (.invokestatic 46, 3) := by decide +kernel
theorem dX2_addYearAt_30 : decode cX2_addYearAt 30 = .ok (.ifCond .eq 85, 3) := by decide +kernel
theorem dX2_addYearAt_33 : decode cX2_addYearAt 33 = .ok (.iload_n 1, 1) := by decide +kernel
theorem dX2_addYearAt_34 : decode cX2_addYearAt 34 = .ok (.bipush 9, 2) := by decide +kernel
theorem dX2_addYearAt_36 : decode cX2_addYearAt 36 = .ok (.imul, 1) := by decide +kernel
theorem dX2_addYearAt_37 : decode cX2_addYearAt 37 = .ok (.iload 6, 2) := by decide +kernel
theorem dX2_addYearAt_39 : decode cX2_addYearAt 39 = .ok (.iadd, 1) := by decide +kernel
theorem dX2_addYearAt_40 : decode cX2_addYearAt 40 = .ok (.istore 7, 2) := by decide +kernel
theorem dX2_addYearAt_42 : decode cX2_addYearAt 42 = .ok (.aload_n 0, 1) := by decide +kernel
theorem dX2_addYearAt_43 : decode cX2_addYearAt 43 = .ok (.getfield 23, 3) := by decide +kernel
theorem dX2_addYearAt_46 : decode cX2_addYearAt 46 = .ok (.iload 6, 2) := by decide +kernel
theorem dX2_addYearAt_48 : decode cX2_addYearAt 48 = .ok (.bipush 9, 2) := by decide +kernel
theorem dX2_addYearAt_50 : decode cX2_addYearAt 50 = .ok (.imul, 1) := by decide +kernel
theorem dX2_addYearAt_51 : decode cX2_addYearAt 51 = .ok (.iload 5, 2) := by decide +kernel
theorem dX2_addYearAt_53 : decode cX2_addYearAt 53 = .ok (.iadd, 1) := by decide +kernel
theorem dX2_addYearAt_54 : decode cX2_addYearAt 54 = .ok (.iaload, 1) := by decide +kernel
theorem dX2_addYearAt_55 : decode cX2_addYearAt 55 = .ok (.istore 8, 2) := by decide +kernel
theorem dX2_addYearAt_57 : decode cX2_addYearAt 57 = .ok (.aload_n 0, 1) := by decide +kernel
theorem dX2_addYearAt_58 : decode cX2_addYearAt 58 = .ok (.getfield 19, 3) := by decide +kernel
theorem dX2_addYearAt_61 : decode cX2_addYearAt 61 = .ok (.iload 6, 2) := by decide +kernel
theorem dX2_addYearAt_63 : decode cX2_addYearAt 63 = .ok (.bipush 9, 2) := by decide +kernel
theorem dX2_addYearAt_65 : decode cX2_addYearAt 65 = .ok (.imul, 1) := by decide +kernel
theorem dX2_addYearAt_66 : decode cX2_addYearAt 66 = .ok (.iload 5, 2) := by decide +kernel
theorem dX2_addYearAt_68 : decode cX2_addYearAt 68 = .ok (.iadd, 1) := by decide +kernel
theorem dX2_addYearAt_69 : decode cX2_addYearAt 69 = .ok (.iaload, 1) := by decide +kernel
theorem dX2_addYearAt_70 : decode cX2_addYearAt 70 = .ok (.i2l, 1) := by decide +kernel
theorem dX2_addYearAt_71 : decode cX2_addYearAt 71 = .ok (.ldc2_w 99, 3) := by decide +kernel
theorem dX2_addYearAt_74 : decode cX2_addYearAt 74 = .ok (.lmul, 1) := by decide +kernel
theorem dX2_addYearAt_75 : decode cX2_addYearAt 75 = .ok (.lstore 9, 2) := by decide +kernel
theorem dX2_addYearAt_77 : decode cX2_addYearAt 77 = .ok (.aload_n 0, 1) := by decide +kernel
theorem dX2_addYearAt_78 : decode cX2_addYearAt 78 = .ok (.getfield 15, 3) := by decide +kernel
theorem dX2_addYearAt_81 : decode cX2_addYearAt 81 = .ok (.iload 7, 2) := by decide +kernel
theorem dX2_addYearAt_83 : decode cX2_addYearAt 83 = .ok (.lload 9, 2) := by decide +kernel
theorem dX2_addYearAt_85 : decode cX2_addYearAt 85 = .ok (.aload_n 0, 1) := by decide +kernel
theorem dX2_addYearAt_86 : decode cX2_addYearAt 86 = .ok (.getfield 15, 3) := by decide +kernel
theorem dX2_addYearAt_89 : decode cX2_addYearAt 89 = .ok (.iload 7, 2) := by decide +kernel
theorem dX2_addYearAt_91 : decode cX2_addYearAt 91 = .ok (.laload, 1) := by decide +kernel
theorem dX2_addYearAt_92 : decode cX2_addYearAt 92 = .ok (.bipush 10, 2) := by decide +kernel
theorem dX2_addYearAt_94 : decode cX2_addYearAt 94 = .ok (.iload 8, 2) := by decide +kernel
theorem dX2_addYearAt_96 : decode cX2_addYearAt 96 = .ok (.isub, 1) := by decide +kernel
theorem dX2_addYearAt_97 : decode cX2_addYearAt 97 = .ok (.i2l, 1) := by decide +kernel
theorem dX2_addYearAt_98 : decode cX2_addYearAt 98 = .ok (.lmul, 1) := by decide +kernel
theorem dX2_addYearAt_99 : decode cX2_addYearAt 99 = .ok (.ldc2_w 101, 3) := by decide +kernel
theorem dX2_addYearAt_102 : decode cX2_addYearAt 102 = .ok (.ldiv, 1) := by decide +kernel
theorem dX2_addYearAt_103 : decode cX2_addYearAt 103 = .ok (.ladd, 1) := by decide +kernel
theorem dX2_addYearAt_104 : decode cX2_addYearAt 104 = .ok (.lload_n 3, 1) := by decide +kernel
theorem dX2_addYearAt_105 : decode cX2_addYearAt 105 = .ok (.iload 8, 2) := by decide +kernel
theorem dX2_addYearAt_107 : decode cX2_addYearAt 107 = .ok (.i2l, 1) := by decide +kernel
theorem dX2_addYearAt_108 : decode cX2_addYearAt 108 = .ok (.lmul, 1) := by decide +kernel
theorem dX2_addYearAt_109 : decode cX2_addYearAt 109 = .ok (.ldc2_w 101, 3) := by decide +kernel
theorem dX2_addYearAt_112 : decode cX2_addYearAt 112 = .ok (.ldiv, 1) := by decide +kernel
theorem dX2_addYearAt_113 : decode cX2_addYearAt 113 = .ok (.ladd, 1) := by decide +kernel
theorem dX2_addYearAt_114 : decode cX2_addYearAt 114 = .ok (.lastore, 1) := by decide +kernel
theorem dX2_addYearAt_115 : decode cX2_addYearAt 115 = .ok (.iinc 6 1, 3) := by decide +kernel
theorem dX2_addYearAt_118 : decode cX2_addYearAt 118 = .ok (.goto (-106), 3) := by decide +kernel
theorem dX2_addYearAt_121 : decode cX2_addYearAt 121 = .ok (.return_, 1) := by decide +kernel
theorem dX2_chanceToLast_0 : decode cX2_chanceToLast 0 = .ok (.aload_n 0, 1) := by decide +kernel
theorem dX2_chanceToLast_1 : decode cX2_chanceToLast 1 = .ok (.aload_n 1, 1) := by decide +kernel
theorem dX2_chanceToLast_2 : decode cX2_chanceToLast 2 = .ok (.iload_n 2, 1) := by decide +kernel
theorem dX2_chanceToLast_3 : decode cX2_chanceToLast 3 = .ok (.invokevirtual 103, 3) := by decide +kernel
theorem dX2_chanceToLast_6 : decode cX2_chanceToLast 6 = .ok (.istore 4, 2) := by decide +kernel
theorem dX2_chanceToLast_8 : decode cX2_chanceToLast 8 = .ok (.aload_n 0, 1) := by decide +kernel
theorem dX2_chanceToLast_9 : decode cX2_chanceToLast 9 = .ok (.getfield 29, 3) := by decide +kernel
theorem dX2_chanceToLast_12 : decode cX2_chanceToLast 12 = .ok (.lconst 0, 1) := by decide +kernel
theorem dX2_chanceToLast_13 : decode cX2_chanceToLast 13 = .ok (.invokestatic 54, 3) := by decide +kernel
theorem dX2_chanceToLast_16 : decode cX2_chanceToLast 16 = .ok (.aload_n 0, 1) := by decide +kernel
theorem dX2_chanceToLast_17 : decode cX2_chanceToLast 17 = .ok (.getfield 29, 3) := by decide +kernel
theorem dX2_chanceToLast_20 : decode cX2_chanceToLast 20 = .ok (.iconst 0, 1) := by decide +kernel
theorem dX2_chanceToLast_21 : decode cX2_chanceToLast 21 = .ok (.ldc2_w 107, 3) := by decide +kernel
theorem dX2_chanceToLast_24 : decode cX2_chanceToLast 24 = .ok (.lastore, 1) := by decide +kernel
theorem dX2_chanceToLast_25 : decode cX2_chanceToLast 25 = .ok (.iconst 0, 1) := by decide +kernel
theorem dX2_chanceToLast_26 : decode cX2_chanceToLast 26 = .ok (.istore 5, 2) := by decide +kernel
theorem dX2_chanceToLast_28 : decode cX2_chanceToLast 28 = .ok (.iload 5, 2) := by decide +kernel
theorem dX2_chanceToLast_30 : decode cX2_chanceToLast 30 = .ok (.iload_n 3, 1) := by decide +kernel
theorem dX2_chanceToLast_31 : decode cX2_chanceToLast 31 = .ok (.if_icmp .ge 87, 3) := by decide +kernel
theorem dX2_chanceToLast_34 : decode cX2_chanceToLast 34 = .ok (.iload 4, 2) := by decide +kernel
theorem dX2_chanceToLast_36 : decode cX2_chanceToLast 36 = .ok (.iconst 1, 1) := by decide +kernel
theorem dX2_chanceToLast_37 : decode cX2_chanceToLast 37 = .ok (.isub, 1) := by decide +kernel
theorem dX2_chanceToLast_38 : decode cX2_chanceToLast 38 = .ok (.istore 6, 2) := by decide +kernel
theorem dX2_chanceToLast_40 : decode cX2_chanceToLast 40 = .ok (.iload 6, 2) := by decide +kernel
theorem dX2_chanceToLast_42 : decode cX2_chanceToLast 42 = .ok (.ifCond .lt 70, 3) := by decide +kernel
theorem dX2_chanceToLast_45 : decode cX2_chanceToLast 45 = .ok (.aload_n 0, 1) := by decide +kernel
theorem dX2_chanceToLast_46 : decode cX2_chanceToLast 46 = .ok (.getfield 29, 3) := by decide +kernel
theorem dX2_chanceToLast_49 : decode cX2_chanceToLast 49 = .ok (.iload 6, 2) := by decide +kernel
theorem dX2_chanceToLast_51 : decode cX2_chanceToLast 51 = .ok (.laload, 1) := by decide +kernel
theorem dX2_chanceToLast_52 : decode cX2_chanceToLast 52 = .ok (.lstore 7, 2) := by decide +kernel
theorem dX2_chanceToLast_54 : decode cX2_chanceToLast 54 = .ok (.aload_n 0, 1) := by decide +kernel
theorem dX2_chanceToLast_55 : decode cX2_chanceToLast 55 = .ok (.getfield 29, 3) := by decide +kernel
theorem dX2_chanceToLast_58 : decode cX2_chanceToLast 58 = .ok (.iload 6, 2) := by decide +kernel
theorem dX2_chanceToLast_60 : decode cX2_chanceToLast 60 = .ok (.lload 7, 2) := by decide +kernel
theorem dX2_chanceToLast_62 : decode cX2_chanceToLast 62 = .ok (.bipush 10, 2) := by decide +kernel
theorem dX2_chanceToLast_64 : decode cX2_chanceToLast 64 = .ok (.aload_n 0, 1) := by decide +kernel
theorem dX2_chanceToLast_65 : decode cX2_chanceToLast 65 = .ok (.getfield 26, 3) := by decide +kernel
theorem dX2_chanceToLast_68 : decode cX2_chanceToLast 68 = .ok (.iload 6, 2) := by decide +kernel
theorem dX2_chanceToLast_70 : decode cX2_chanceToLast 70 = .ok (.iaload, 1) := by decide +kernel
theorem dX2_chanceToLast_71 : decode cX2_chanceToLast 71 = .ok (.isub, 1) := by decide +kernel
theorem dX2_chanceToLast_72 : decode cX2_chanceToLast 72 = .ok (.i2l, 1) := by decide +kernel
theorem dX2_chanceToLast_73 : decode cX2_chanceToLast 73 = .ok (.lmul, 1) := by decide +kernel
theorem dX2_chanceToLast_74 : decode cX2_chanceToLast 74 = .ok (.ldc2_w 101, 3) := by decide +kernel
theorem dX2_chanceToLast_77 : decode cX2_chanceToLast 77 = .ok (.ldiv, 1) := by decide +kernel
theorem dX2_chanceToLast_78 : decode cX2_chanceToLast 78 = .ok (.lastore, 1) := by decide +kernel
theorem dX2_chanceToLast_79 : decode cX2_chanceToLast 79 = .ok (.aload_n 0, 1) := by decide +kernel
theorem dX2_chanceToLast_80 : decode cX2_chanceToLast 80 = .ok (.getfield 29, 3) := by decide +kernel
theorem dX2_chanceToLast_83 : decode cX2_chanceToLast 83 = .ok (.iload 6, 2) := by decide +kernel
theorem dX2_chanceToLast_85 : decode cX2_chanceToLast 85 = .ok (.iconst 1, 1) := by decide +kernel
theorem dX2_chanceToLast_86 : decode cX2_chanceToLast 86 = .ok (.iadd, 1) := by decide +kernel
theorem dX2_chanceToLast_87 : decode cX2_chanceToLast 87 = .ok (.dup2, 1) := by decide +kernel
theorem dX2_chanceToLast_88 : decode cX2_chanceToLast 88 = .ok (.laload, 1) := by decide +kernel
theorem dX2_chanceToLast_89 : decode cX2_chanceToLast 89 = .ok (.lload 7, 2) := by decide +kernel
theorem dX2_chanceToLast_91 : decode cX2_chanceToLast 91 = .ok (.aload_n 0, 1) := by decide +kernel
theorem dX2_chanceToLast_92 : decode cX2_chanceToLast 92 = .ok (.getfield 26, 3) := by decide +kernel
theorem dX2_chanceToLast_95 : decode cX2_chanceToLast 95 = .ok (.iload 6, 2) := by decide +kernel
theorem dX2_chanceToLast_97 : decode cX2_chanceToLast 97 = .ok (.iaload, 1) := by decide +kernel
theorem dX2_chanceToLast_98 : decode cX2_chanceToLast 98 = .ok (.i2l, 1) := by decide +kernel
theorem dX2_chanceToLast_99 : decode cX2_chanceToLast 99 = .ok (.lmul, 1) := by decide +kernel
theorem dX2_chanceToLast_100 : decode cX2_chanceToLast 100 = .ok (.ldc2_w 101, 3) := by decide +kernel
theorem dX2_chanceToLast_103 : decode cX2_chanceToLast 103 = .ok (.ldiv, 1) := by decide +kernel
theorem dX2_chanceToLast_104 : decode cX2_chanceToLast 104 = .ok (.ladd, 1) := by decide +kernel
theorem dX2_chanceToLast_105 : decode cX2_chanceToLast 105 = .ok (.lastore, 1) := by decide +kernel
theorem dX2_chanceToLast_106 : decode cX2_chanceToLast 106 = .ok (.iinc 6 (-1), 3) := by decide +kernel
theorem dX2_chanceToLast_109 : decode cX2_chanceToLast 109 = .ok (.goto (-69), 3) := by decide +kernel
theorem dX2_chanceToLast_112 : decode cX2_chanceToLast 112 = .ok (.iinc 5 1, 3) := by decide +kernel
theorem dX2_chanceToLast_115 : decode cX2_chanceToLast 115 = .ok (.goto (-87), 3) := by decide +kernel
theorem dX2_chanceToLast_118 : decode cX2_chanceToLast 118 = .ok (.lconst 0, 1) := by decide +kernel
theorem dX2_chanceToLast_119 : decode cX2_chanceToLast 119 = .ok (.lstore 5, 2) := by decide +kernel
theorem dX2_chanceToLast_121 : decode cX2_chanceToLast 121 = .ok (.iconst 0, 1) := by decide +kernel
theorem dX2_chanceToLast_122 : decode cX2_chanceToLast 122 = .ok (.istore 7, 2) := by decide +kernel
theorem dX2_chanceToLast_124 : decode cX2_chanceToLast 124 = .ok (.iload 7, 2) := by decide +kernel
theorem dX2_chanceToLast_126 : decode cX2_chanceToLast 126 = .ok (.iload 4, 2) := by decide +kernel
theorem dX2_chanceToLast_128 : decode cX2_chanceToLast 128 = .ok (.if_icmp .ge 21, 3) := by decide +kernel
theorem dX2_chanceToLast_131 : decode cX2_chanceToLast 131 = .ok (.lload 5, 2) := by decide +kernel
theorem dX2_chanceToLast_133 : decode cX2_chanceToLast 133 = .ok (.aload_n 0, 1) := by decide +kernel
theorem dX2_chanceToLast_134 : decode cX2_chanceToLast 134 = .ok (.getfield 29, 3) := by decide +kernel
theorem dX2_chanceToLast_137 : decode cX2_chanceToLast 137 = .ok (.iload 7, 2) := by decide +kernel
theorem dX2_chanceToLast_139 : decode cX2_chanceToLast 139 = .ok (.laload, 1) := by decide +kernel
theorem dX2_chanceToLast_140 : decode cX2_chanceToLast 140 = .ok (.ladd, 1) := by decide +kernel
theorem dX2_chanceToLast_141 : decode cX2_chanceToLast 141 = .ok (.lstore 5, 2) := by decide +kernel
theorem dX2_chanceToLast_143 : decode cX2_chanceToLast 143 = .ok (.iinc 7 1, 3) := by decide +kernel
theorem dX2_chanceToLast_146 : decode cX2_chanceToLast 146 = .ok (.goto (-22), 3) := by decide +kernel
theorem dX2_chanceToLast_149 : decode cX2_chanceToLast 149 = .ok (.lload 5, 2) := by decide +kernel
theorem dX2_chanceToLast_151 : decode cX2_chanceToLast 151 = .ok (.lreturn, 1) := by decide +kernel
theorem dX2_askInTurn_0 : decode cX2_askInTurn 0 = .ok (.aload_n 1, 1) := by decide +kernel
theorem dX2_askInTurn_1 : decode cX2_askInTurn 1 = .ok (.iload_n 2, 1) := by decide +kernel
theorem dX2_askInTurn_2 : decode cX2_askInTurn 2 = .ok (.invokevirtual 64, 3) := by decide +kernel
theorem dX2_askInTurn_5 : decode cX2_askInTurn 5 = .ok (.istore_n 3, 1) := by decide +kernel
theorem dX2_askInTurn_6 : decode cX2_askInTurn 6 = .ok (.aload_n 0, 1) := by decide +kernel
theorem dX2_askInTurn_7 : decode cX2_askInTurn 7 = .ok (.getfield 9, 3) := by decide +kernel
theorem dX2_askInTurn_10 : decode cX2_askInTurn 10 = .ok (.aload_n 1, 1) := by decide +kernel
theorem dX2_askInTurn_11 : decode cX2_askInTurn 11 = .ok (.iload_n 2, 1) := by decide +kernel
theorem dX2_askInTurn_12 : decode cX2_askInTurn 12 = .ok (.invokevirtual 68, 3) := by decide +kernel
theorem dX2_askInTurn_15 : decode cX2_askInTurn 15 = .ok (.aload_n 0, 1) := by decide +kernel
theorem dX2_askInTurn_16 : decode cX2_askInTurn 16 = .ok (.getfield 26, 3) := by decide +kernel
theorem dX2_askInTurn_19 : decode cX2_askInTurn 19 = .ok (.iconst 0, 1) := by decide +kernel
theorem dX2_askInTurn_20 : decode cX2_askInTurn 20 = .ok (.aload_n 0, 1) := by decide +kernel
theorem dX2_askInTurn_21 : decode cX2_askInTurn 21 = .ok (.getfield 9, 3) := by decide +kernel
theorem dX2_askInTurn_24 : decode cX2_askInTurn 24 = .ok (.sipush 264, 3) := by decide +kernel
theorem dX2_askInTurn_27 : decode cX2_askInTurn 27 = .ok (.invokevirtual 77, 3) := by decide +kernel
theorem dX2_askInTurn_30 : decode cX2_askInTurn 30 = .ok (.iastore, 1) := by decide +kernel
theorem dX2_askInTurn_31 : decode cX2_askInTurn 31 = .ok (.iconst 1, 1) := by decide +kernel
theorem dX2_askInTurn_32 : decode cX2_askInTurn 32 = .ok (.istore 4, 2) := by decide +kernel
theorem dX2_askInTurn_34 : decode cX2_askInTurn 34 = .ok (.iconst 0, 1) := by decide +kernel
theorem dX2_askInTurn_35 : decode cX2_askInTurn 35 = .ok (.istore 5, 2) := by decide +kernel
theorem dX2_askInTurn_37 : decode cX2_askInTurn 37 = .ok (.iload 5, 2) := by decide +kernel
theorem dX2_askInTurn_39 : decode cX2_askInTurn 39 = .ok (.bipush 9, 2) := by decide +kernel
theorem dX2_askInTurn_41 : decode cX2_askInTurn 41 = .ok (.if_icmp .ge 63, 3) := by decide +kernel
theorem dX2_askInTurn_44 : decode cX2_askInTurn 44 = .ok (.iload 4, 2) := by decide +kernel
theorem dX2_askInTurn_46 : decode cX2_askInTurn 46 = .ok (.bipush 9, 2) := by decide +kernel
theorem dX2_askInTurn_48 : decode cX2_askInTurn 48 = .ok (.if_icmp .ge 56, 3) := by decide +kernel
theorem dX2_askInTurn_51 : decode cX2_askInTurn 51 = .ok (.aload_n 1, 1) := by decide +kernel
theorem dX2_askInTurn_52 : decode cX2_askInTurn 52 = .ok (.getfield 36, 3) := by decide +kernel
theorem dX2_askInTurn_55 : decode cX2_askInTurn 55 = .ok (.iload_n 2, 1) := by decide +kernel
theorem dX2_askInTurn_56 : decode cX2_askInTurn 56 = .ok (.iaload, 1) := by decide +kernel
theorem dX2_askInTurn_57 : decode cX2_askInTurn 57 = .ok (.iload 5, 2) := by decide +kernel
theorem dX2_askInTurn_59 : decode cX2_askInTurn 59 = .ok (.invokestatic 46, 3) := by decide +kernel
theorem dX2_askInTurn_62 : decode cX2_askInTurn 62 = .ok (.ifCond .eq 36, 3) := by decide +kernel
theorem dX2_askInTurn_65 : decode cX2_askInTurn 65 = .ok (.aload_n 0, 1) := by decide +kernel
theorem dX2_askInTurn_66 : decode cX2_askInTurn 66 = .ok (.getfield 9, 3) := by decide +kernel
theorem dX2_askInTurn_69 : decode cX2_askInTurn 69 = .ok (.iload 5, 2) := by decide +kernel
theorem dX2_askInTurn_71 : decode cX2_askInTurn 71 = .ok (.iload_n 3, 1) := by decide +kernel
theorem dX2_askInTurn_72 : decode cX2_askInTurn 72 = .ok (.iload 4, 2) := by decide +kernel
theorem dX2_askInTurn_74 : decode cX2_askInTurn 74 = .ok (.iadd, 1) := by decide +kernel
theorem dX2_askInTurn_75 : decode cX2_askInTurn 75 = .ok (.invokevirtual 73, 3) := by decide +kernel
theorem dX2_askInTurn_78 : decode cX2_askInTurn 78 = .ok (.aload_n 0, 1) := by decide +kernel
theorem dX2_askInTurn_79 : decode cX2_askInTurn 79 = .ok (.getfield 26, 3) := by decide +kernel
theorem dX2_askInTurn_82 : decode cX2_askInTurn 82 = .ok (.iload 4, 2) := by decide +kernel
theorem dX2_askInTurn_84 : decode cX2_askInTurn 84 = .ok (.aload_n 0, 1) := by decide +kernel
theorem dX2_askInTurn_85 : decode cX2_askInTurn 85 = .ok (.getfield 9, 3) := by decide +kernel
theorem dX2_askInTurn_88 : decode cX2_askInTurn 88 = .ok (.sipush 264, 3) := by decide +kernel
theorem dX2_askInTurn_91 : decode cX2_askInTurn 91 = .ok (.invokevirtual 77, 3) := by decide +kernel
theorem dX2_askInTurn_94 : decode cX2_askInTurn 94 = .ok (.iastore, 1) := by decide +kernel
theorem dX2_askInTurn_95 : decode cX2_askInTurn 95 = .ok (.iinc 4 1, 3) := by decide +kernel
theorem dX2_askInTurn_98 : decode cX2_askInTurn 98 = .ok (.iinc 5 1, 3) := by decide +kernel
theorem dX2_askInTurn_101 : decode cX2_askInTurn 101 = .ok (.goto (-64), 3) := by decide +kernel
theorem dX2_askInTurn_104 : decode cX2_askInTurn 104 = .ok (.iload 4, 2) := by decide +kernel
theorem dX2_askInTurn_106 : decode cX2_askInTurn 106 = .ok (.ireturn, 1) := by decide +kernel
theorem dX2_drawYears_0 : decode cX2_drawYears 0 = .ok (.aload_n 0, 1) := by decide +kernel
theorem dX2_drawYears_1 : decode cX2_drawYears 1 = .ok (.iload_n 2, 1) := by decide +kernel
theorem dX2_drawYears_2 : decode cX2_drawYears 2 = .ok (.putfield 109, 3) := by decide +kernel
theorem dX2_drawYears_5 : decode cX2_drawYears 5 = .ok (.iconst 0, 1) := by decide +kernel
theorem dX2_drawYears_6 : decode cX2_drawYears 6 = .ok (.istore 4, 2) := by decide +kernel
theorem dX2_drawYears_8 : decode cX2_drawYears 8 = .ok (.iconst 0, 1) := by decide +kernel
theorem dX2_drawYears_9 : decode cX2_drawYears 9 = .ok (.istore 5, 2) := by decide +kernel
theorem dX2_drawYears_11 : decode cX2_drawYears 11 = .ok (.iload 5, 2) := by decide +kernel
theorem dX2_drawYears_13 : decode cX2_drawYears 13 = .ok (.iload_n 3, 1) := by decide +kernel
theorem dX2_drawYears_14 : decode cX2_drawYears 14 = .ok (.if_icmp .ge 85, 3) := by decide +kernel
theorem dX2_drawYears_17 : decode cX2_drawYears 17 = .ok (.aload_n 1, 1) := by decide +kernel
theorem dX2_drawYears_18 : decode cX2_drawYears 18 = .ok (.getfield 113, 3) := by decide +kernel
theorem dX2_drawYears_21 : decode cX2_drawYears 21 = .ok (.iconst 0, 1) := by decide +kernel
theorem dX2_drawYears_22 : decode cX2_drawYears 22 = .ok (.iaload, 1) := by decide +kernel
theorem dX2_drawYears_23 : decode cX2_drawYears 23 = .ok (.sipush 999, 3) := by decide +kernel
theorem dX2_drawYears_26 : decode cX2_drawYears 26 = .ok (.if_icmp .ge 73, 3) := by decide +kernel
theorem dX2_drawYears_29 : decode cX2_drawYears 29 = .ok (.iconst 0, 1) := by decide +kernel
theorem dX2_drawYears_30 : decode cX2_drawYears 30 = .ok (.istore 6, 2) := by decide +kernel
theorem dX2_drawYears_32 : decode cX2_drawYears 32 = .ok (.iload 6, 2) := by decide +kernel
theorem dX2_drawYears_34 : decode cX2_drawYears 34 = .ok (.aload_n 1, 1) := by decide +kernel
theorem dX2_drawYears_35 : decode cX2_drawYears 35 = .ok (.getfield 116, 3) := by decide +kernel
theorem dX2_drawYears_38 : decode cX2_drawYears 38 = .ok (.if_icmp .ge 47, 3) := by decide +kernel
theorem dX2_drawYears_41 : decode cX2_drawYears 41 = .ok (.aload_n 1, 1) := by decide +kernel
theorem dX2_drawYears_42 : decode cX2_drawYears 42 = .ok (.iload 6, 2) := by decide +kernel
theorem dX2_drawYears_44 : decode cX2_drawYears 44 = .ok (.invokevirtual 119, 3) := by decide +kernel
theorem dX2_drawYears_47 : decode cX2_drawYears 47 = .ok (.ifCond .eq 32, 3) := by decide +kernel
theorem dX2_drawYears_50 : decode cX2_drawYears 50 = .ok (.aload_n 0, 1) := by decide +kernel
theorem dX2_drawYears_51 : decode cX2_drawYears 51 = .ok (.aload_n 1, 1) := by decide +kernel
theorem dX2_drawYears_52 : decode cX2_drawYears 52 = .ok (.iload 6, 2) := by decide +kernel
theorem dX2_drawYears_54 : decode cX2_drawYears 54 = .ok (.invokevirtual 123, 3) := by decide +kernel
theorem dX2_drawYears_57 : decode cX2_drawYears 57 = .ok (.ifCond .eq 22, 3) := by decide +kernel
theorem dX2_drawYears_60 : decode cX2_drawYears 60 = .ok (.aload_n 1, 1) := by decide +kernel
theorem dX2_drawYears_61 : decode cX2_drawYears 61 = .ok (.iload 6, 2) := by decide +kernel
theorem dX2_drawYears_63 : decode cX2_drawYears 63 = .ok (.aload_n 1, 1) := by decide +kernel
theorem dX2_drawYears_64 : decode cX2_drawYears 64 = .ok (.getfield 36, 3) := by decide +kernel
theorem dX2_drawYears_67 : decode cX2_drawYears 67 = .ok (.iload 6, 2) := by decide +kernel
theorem dX2_drawYears_69 : decode cX2_drawYears 69 = .ok (.iaload, 1) := by decide +kernel
theorem dX2_drawYears_70 : decode cX2_drawYears 70 = .ok (.invokestatic 127, 3) := by decide +kernel
theorem dX2_drawYears_73 : decode cX2_drawYears 73 = .ok (.invokevirtual 130, 3) := by decide +kernel
theorem dX2_drawYears_76 : decode cX2_drawYears 76 = .ok (.iinc 4 1, 3) := by decide +kernel
theorem dX2_drawYears_79 : decode cX2_drawYears 79 = .ok (.iinc 6 1, 3) := by decide +kernel
theorem dX2_drawYears_82 : decode cX2_drawYears 82 = .ok (.goto (-50), 3) := by decide +kernel
theorem dX2_drawYears_85 : decode cX2_drawYears 85 = .ok (.aload_n 1, 1) := by decide +kernel
theorem dX2_drawYears_86 : decode cX2_drawYears 86 = .ok (.aload_n 0, 1) := by decide +kernel
theorem dX2_drawYears_87 : decode cX2_drawYears 87 = .ok (.getfield 9, 3) := by decide +kernel
theorem dX2_drawYears_90 : decode cX2_drawYears 90 = .ok (.invokevirtual 133, 3) := by decide +kernel
theorem dX2_drawYears_93 : decode cX2_drawYears 93 = .ok (.iinc 5 1, 3) := by decide +kernel
theorem dX2_drawYears_96 : decode cX2_drawYears 96 = .ok (.goto (-85), 3) := by decide +kernel
theorem dX2_drawYears_99 : decode cX2_drawYears 99 = .ok (.iload 4, 2) := by decide +kernel
theorem dX2_drawYears_101 : decode cX2_drawYears 101 = .ok (.ireturn, 1) := by decide +kernel
theorem dX2_isDrawnToDie_0 : decode cX2_isDrawnToDie 0 = .ok (.aload_n 0, 1) := by decide +kernel
theorem dX2_isDrawnToDie_1 : decode cX2_isDrawnToDie 1 = .ok (.aload_n 0, 1) := by decide +kernel
theorem dX2_isDrawnToDie_2 : decode cX2_isDrawnToDie 2 = .ok (.getfield 109, 3) := by decide +kernel
theorem dX2_isDrawnToDie_5 : decode cX2_isDrawnToDie 5 = .ok (.sipush 1103, 3) := by decide +kernel
theorem dX2_isDrawnToDie_8 : decode cX2_isDrawnToDie 8 = .ok (.imul, 1) := by decide +kernel
theorem dX2_isDrawnToDie_9 : decode cX2_isDrawnToDie 9 = .ok (.sipush 12345, 3) := by decide +kernel
theorem dX2_isDrawnToDie_12 : decode cX2_isDrawnToDie 12 = .ok (.iadd, 1) := by decide +kernel
theorem dX2_isDrawnToDie_13 : decode cX2_isDrawnToDie 13 = .ok (.ldc 137, 2) := by decide +kernel
theorem dX2_isDrawnToDie_15 : decode cX2_isDrawnToDie 15 = .ok (.irem, 1) := by decide +kernel
theorem dX2_isDrawnToDie_16 : decode cX2_isDrawnToDie 16 = .ok (.putfield 109, 3) := by decide +kernel
theorem dX2_isDrawnToDie_19 : decode cX2_isDrawnToDie 19 = .ok (.aload_n 0, 1) := by decide +kernel
theorem dX2_isDrawnToDie_20 : decode cX2_isDrawnToDie 20 = .ok (.getfield 9, 3) := by decide +kernel
theorem dX2_isDrawnToDie_23 : decode cX2_isDrawnToDie 23 = .ok (.aload_n 1, 1) := by decide +kernel
theorem dX2_isDrawnToDie_24 : decode cX2_isDrawnToDie 24 = .ok (.iload_n 2, 1) := by decide +kernel
theorem dX2_isDrawnToDie_25 : decode cX2_isDrawnToDie 25 = .ok (.invokevirtual 68, 3) := by decide +kernel
theorem dX2_isDrawnToDie_28 : decode cX2_isDrawnToDie 28 = .ok (.aload_n 0, 1) := by decide +kernel
theorem dX2_isDrawnToDie_29 : decode cX2_isDrawnToDie 29 = .ok (.getfield 109, 3) := by decide +kernel
theorem dX2_isDrawnToDie_32 : decode cX2_isDrawnToDie 32 = .ok (.bipush 10, 2) := by decide +kernel
theorem dX2_isDrawnToDie_34 : decode cX2_isDrawnToDie 34 = .ok (.irem, 1) := by decide +kernel
theorem dX2_isDrawnToDie_35 : decode cX2_isDrawnToDie 35 = .ok (.aload_n 0, 1) := by decide +kernel
theorem dX2_isDrawnToDie_36 : decode cX2_isDrawnToDie 36 = .ok (.getfield 9, 3) := by decide +kernel
theorem dX2_isDrawnToDie_39 : decode cX2_isDrawnToDie 39 = .ok (.sipush 264, 3) := by decide +kernel
theorem dX2_isDrawnToDie_42 : decode cX2_isDrawnToDie 42 = .ok (.invokevirtual 77, 3) := by decide +kernel
theorem dX2_isDrawnToDie_45 : decode cX2_isDrawnToDie 45 = .ok (.if_icmp .ge 7, 3) := by decide +kernel
theorem dX2_isDrawnToDie_48 : decode cX2_isDrawnToDie 48 = .ok (.iconst 1, 1) := by decide +kernel
theorem dX2_isDrawnToDie_49 : decode cX2_isDrawnToDie 49 = .ok (.goto 4, 3) := by decide +kernel
theorem dX2_isDrawnToDie_52 : decode cX2_isDrawnToDie 52 = .ok (.iconst 0, 1) := by decide +kernel
theorem dX2_isDrawnToDie_53 : decode cX2_isDrawnToDie 53 = .ok (.ireturn, 1) := by decide +kernel
theorem dX3_init_0 : decode cX3_init 0 = .ok (.aload_n 0, 1) := by decide +kernel
theorem dX3_init_1 : decode cX3_init 1 = .ok (.invokespecial 3, 3) := by decide +kernel
theorem dX3_init_4 : decode cX3_init 4 = .ok (.aload_n 0, 1) := by decide +kernel
theorem dX3_init_5 : decode cX3_init 5 = .ok (.aload_n 1, 1) := by decide +kernel
theorem dX3_init_6 : decode cX3_init 6 = .ok (.putfield 9, 3) := by decide +kernel
theorem dX3_init_9 : decode cX3_init 9 = .ok (.aload_n 0, 1) := by decide +kernel
theorem dX3_init_10 : decode cX3_init 10 = .ok (.aload_n 2, 1) := by decide +kernel
theorem dX3_init_11 : decode cX3_init 11 = .ok (.putfield 15, 3) := by decide +kernel
theorem dX3_init_14 : decode cX3_init 14 = .ok (.aload_n 0, 1) := by decide +kernel
theorem dX3_init_15 : decode cX3_init 15 = .ok (.bipush 19, 2) := by decide +kernel
theorem dX3_init_17 : decode cX3_init 17 = .ok (.newarray .int, 2) := by decide +kernel
theorem dX3_init_19 : decode cX3_init 19 = .ok (.putfield 19, 3) := by decide +kernel
theorem dX3_init_22 : decode cX3_init 22 = .ok (.aload_n 0, 1) := by decide +kernel
theorem dX3_init_23 : decode cX3_init 23 = .ok (.iconst (-1), 1) := by decide +kernel
theorem dX3_init_24 : decode cX3_init 24 = .ok (.putfield 23, 3) := by decide +kernel
theorem dX3_init_27 : decode cX3_init 27 = .ok (.return_, 1) := by decide +kernel
theorem dX3_run_0 : decode cX3_run 0 = .ok (.aload_n 0, 1) := by decide +kernel
theorem dX3_run_1 : decode cX3_run 1 = .ok (.getfield 9, 3) := by decide +kernel
theorem dX3_run_4 : decode cX3_run 4 = .ok (.invokevirtual 27, 3) := by decide +kernel
theorem dX3_run_7 : decode cX3_run 7 = .ok (.aload_n 0, 1) := by decide +kernel
theorem dX3_run_8 : decode cX3_run 8 = .ok (.iconst 0, 1) := by decide +kernel
theorem dX3_run_9 : decode cX3_run 9 = .ok (.putfield 32, 3) := by decide +kernel
theorem dX3_run_12 : decode cX3_run 12 = .ok (.aload_n 0, 1) := by decide +kernel
theorem dX3_run_13 : decode cX3_run 13 = .ok (.iconst (-1), 1) := by decide +kernel
theorem dX3_run_14 : decode cX3_run 14 = .ok (.putfield 35, 3) := by decide +kernel
theorem dX3_run_17 : decode cX3_run 17 = .ok (.aload_n 0, 1) := by decide +kernel
theorem dX3_run_18 : decode cX3_run 18 = .ok (.iconst (-1), 1) := by decide +kernel
theorem dX3_run_19 : decode cX3_run 19 = .ok (.putfield 23, 3) := by decide +kernel
theorem dX3_run_22 : decode cX3_run 22 = .ok (.iconst 0, 1) := by decide +kernel
theorem dX3_run_23 : decode cX3_run 23 = .ok (.istore_n 2, 1) := by decide +kernel
theorem dX3_run_24 : decode cX3_run 24 = .ok (.iload_n 2, 1) := by decide +kernel
theorem dX3_run_25 : decode cX3_run 25 = .ok (.aload_n 1, 1) := by decide +kernel
theorem dX3_run_26 : decode cX3_run 26 = .ok (.getfield 38, 3) := by decide +kernel
theorem dX3_run_29 : decode cX3_run 29 = .ok (.if_icmp .ge 51, 3) := by decide +kernel
theorem dX3_run_32 : decode cX3_run 32 = .ok (.iconst 0, 1) := by decide +kernel
theorem dX3_run_33 : decode cX3_run 33 = .ok (.istore_n 3, 1) := by decide +kernel
theorem dX3_run_34 : decode cX3_run 34 = .ok (.iload_n 3, 1) := by decide +kernel
theorem dX3_run_35 : decode cX3_run 35 = .ok (.aload_n 1, 1) := by decide +kernel
theorem dX3_run_36 : decode cX3_run 36 = .ok (.getfield 43, 3) := by decide +kernel
theorem dX3_run_39 : decode cX3_run 39 = .ok (.iload_n 2, 1) := by decide +kernel
theorem dX3_run_40 : decode cX3_run 40 = .ok (.iaload, 1) := by decide +kernel
theorem dX3_run_41 : decode cX3_run 41 = .ok (.if_icmp .ge 33, 3) := by decide +kernel
theorem dX3_run_44 : decode cX3_run 44 = .ok (.aload_n 0, 1) := by decide +kernel
theorem dX3_run_45 : decode cX3_run 45 = .ok (.aload_n 1, 1) := by decide +kernel
theorem dX3_run_46 : decode cX3_run 46 = .ok (.iload_n 2, 1) := by decide +kernel
theorem dX3_run_47 : decode cX3_run 47 = .ok (.invokevirtual 46, 3) := by decide +kernel
theorem dX3_run_50 : decode cX3_run 50 = .ok (.ifCond .ne 18, 3) := by decide +kernel
theorem dX3_run_53 : decode cX3_run 53 = .ok (.aload_n 0, 1) := by decide +kernel
theorem dX3_run_54 : decode cX3_run 54 = .ok (.getfield 9, 3) := by decide +kernel
theorem dX3_run_57 : decode cX3_run 57 = .ok (.invokevirtual 50, 3) := by decide +kernel
theorem dX3_run_60 : decode cX3_run 60 = .ok (.aload_n 0, 1) := by decide +kernel
theorem dX3_run_61 : decode cX3_run 61 = .ok (.iload_n 2, 1) := by decide +kernel
theorem dX3_run_62 : decode cX3_run 62 = .ok (.putfield 23, 3) := by decide +kernel
theorem dX3_run_65 : decode cX3_run 65 = .ok (.bipush (-3), 2) := by decide +kernel
theorem dX3_run_67 : decode cX3_run 67 = .ok (.ireturn, 1) := by decide +kernel
theorem dX3_run_68 : decode cX3_run 68 = .ok (.iinc 3 1, 3) := by decide +kernel
theorem dX3_run_71 : decode cX3_run 71 = .ok (.goto (-37), 3) := by decide +kernel
theorem dX3_run_74 : decode cX3_run 74 = .ok (.iinc 2 1, 3) := by decide +kernel
theorem dX3_run_77 : decode cX3_run 77 = .ok (.goto (-53), 3) := by decide +kernel
theorem dX3_run_80 : decode cX3_run 80 = .ok (.aload_n 0, 1) := by decide +kernel
theorem dX3_run_81 : decode cX3_run 81 = .ok (.getfield 32, 3) := by decide +kernel
theorem dX3_run_84 : decode cX3_run 84 = .ok (.ireturn, 1) := by decide +kernel
theorem dX3_ranOnce_0 : decode cX3_ranOnce 0 = .ok (.aload_n 0, 1) := by decide +kernel
theorem dX3_ranOnce_1 : decode cX3_ranOnce 1 = .ok (.aload_n 0, 1) := by decide +kernel
theorem dX3_ranOnce_2 : decode cX3_ranOnce 2 = .ok (.getfield 9, 3) := by decide +kernel
theorem dX3_ranOnce_5 : decode cX3_ranOnce 5 = .ok (.getfield 53, 3) := by decide +kernel
theorem dX3_ranOnce_8 : decode cX3_ranOnce 8 = .ok (.invokevirtual 57, 3) := by decide +kernel
theorem dX3_ranOnce_11 : decode cX3_ranOnce 11 = .ok (.aload_n 0, 1) := by decide +kernel
theorem dX3_ranOnce_12 : decode cX3_ranOnce 12 = .ok (.getfield 15, 3) := by decide +kernel
theorem dX3_ranOnce_15 : decode cX3_ranOnce 15 = .ok (.aload_n 1, 1) := by decide +kernel
theorem dX3_ranOnce_16 : decode cX3_ranOnce 16 = .ok (.iload_n 2, 1) := by decide +kernel
theorem dX3_ranOnce_17 : decode cX3_ranOnce 17 = .ok (.iconst 2, 1) := by decide +kernel
theorem dX3_ranOnce_18 : decode cX3_ranOnce 18 = .ok (.aload_n 0, 1) := by decide +kernel
theorem dX3_ranOnce_19 : decode cX3_ranOnce 19 = .ok (.getfield 19, 3) := by decide +kernel
theorem dX3_ranOnce_22 : decode cX3_ranOnce 22 = .ok (.invokevirtual 61, 3) := by decide +kernel
theorem dX3_ranOnce_25 : decode cX3_ranOnce 25 = .ok (.lconst 1, 1) := by decide +kernel
theorem dX3_ranOnce_26 : decode cX3_ranOnce 26 = .ok (.lcmp, 1) := by decide +kernel
theorem dX3_ranOnce_27 : decode cX3_ranOnce 27 = .ok (.ifCond .eq 5, 3) := by decide +kernel
theorem dX3_ranOnce_30 : decode cX3_ranOnce 30 = .ok (.iconst 1, 1) := by decide +kernel
theorem dX3_ranOnce_31 : decode cX3_ranOnce 31 = .ok (.ireturn, 1) := by decide +kernel
theorem dX3_ranOnce_32 : decode cX3_ranOnce 32 = .ok (.aload_n 0, 1) := by decide +kernel
theorem dX3_ranOnce_33 : decode cX3_ranOnce 33 = .ok (.getfield 15, 3) := by decide +kernel
theorem dX3_ranOnce_36 : decode cX3_ranOnce 36 = .ok (.aload_n 1, 1) := by decide +kernel
theorem dX3_ranOnce_37 : decode cX3_ranOnce 37 = .ok (.iload_n 2, 1) := by decide +kernel
theorem dX3_ranOnce_38 : decode cX3_ranOnce 38 = .ok (.iconst 0, 1) := by decide +kernel
theorem dX3_ranOnce_39 : decode cX3_ranOnce 39 = .ok (.aload_n 0, 1) := by decide +kernel
theorem dX3_ranOnce_40 : decode cX3_ranOnce 40 = .ok (.getfield 19, 3) := by decide +kernel
theorem dX3_ranOnce_43 : decode cX3_ranOnce 43 = .ok (.invokevirtual 61, 3) := by decide +kernel
theorem dX3_ranOnce_46 : decode cX3_ranOnce 46 = .ok (.lstore_n 3, 1) := by decide +kernel
theorem dX3_ranOnce_47 : decode cX3_ranOnce 47 = .ok (.aload_n 0, 1) := by decide +kernel
theorem dX3_ranOnce_48 : decode cX3_ranOnce 48 = .ok (.getfield 15, 3) := by decide +kernel
theorem dX3_ranOnce_51 : decode cX3_ranOnce 51 = .ok (.aload_n 1, 1) := by decide +kernel
theorem dX3_ranOnce_52 : decode cX3_ranOnce 52 = .ok (.iload_n 2, 1) := by decide +kernel
theorem dX3_ranOnce_53 : decode cX3_ranOnce 53 = .ok (.iconst 1, 1) := by decide +kernel
theorem dX3_ranOnce_54 : decode cX3_ranOnce 54 = .ok (.aload_n 0, 1) := by decide +kernel
theorem dX3_ranOnce_55 : decode cX3_ranOnce 55 = .ok (.getfield 19, 3) := by decide +kernel
theorem dX3_ranOnce_58 : decode cX3_ranOnce 58 = .ok (.invokevirtual 61, 3) := by decide +kernel
theorem dX3_ranOnce_61 : decode cX3_ranOnce 61 = .ok (.lstore 5, 2) := by decide +kernel
theorem dX3_ranOnce_63 : decode cX3_ranOnce 63 = .ok (.lload_n 3, 1) := by decide +kernel
theorem dX3_ranOnce_64 : decode cX3_ranOnce 64 = .ok (.ldc2_w 67, 3) := by decide +kernel
theorem dX3_ranOnce_67 : decode cX3_ranOnce 67 = .ok (.lcmp, 1) := by decide +kernel
theorem dX3_ranOnce_68 : decode cX3_ranOnce 68 = .ok (.ifCond .eq 12, 3) := by decide +kernel
theorem dX3_ranOnce_71 : decode cX3_ranOnce 71 = .ok (.lload 5, 2) := by decide +kernel
theorem dX3_ranOnce_73 : decode cX3_ranOnce 73 = .ok (.ldc2_w 67, 3) := by decide +kernel
theorem dX3_ranOnce_76 : decode cX3_ranOnce 76 = .ok (.lcmp, 1) := by decide +kernel
theorem dX3_ranOnce_77 : decode cX3_ranOnce 77 = .ok (.ifCond .ne 5, 3) := by decide +kernel
theorem dX3_ranOnce_80 : decode cX3_ranOnce 80 = .ok (.iconst 0, 1) := by decide +kernel
theorem dX3_ranOnce_81 : decode cX3_ranOnce 81 = .ok (.ireturn, 1) := by decide +kernel
theorem dX3_ranOnce_82 : decode cX3_ranOnce 82 = .ok (.aload_n 1, 1) := by decide +kernel
theorem dX3_ranOnce_83 : decode cX3_ranOnce 83 = .ok (.getfield 69, 3) := by decide +kernel
theorem dX3_ranOnce_86 : decode cX3_ranOnce 86 = .ok (.iload_n 2, 1) := by decide +kernel
theorem dX3_ranOnce_87 : decode cX3_ranOnce 87 = .ok (.iaload, 1) := by decide +kernel
theorem dX3_ranOnce_88 : decode cX3_ranOnce 88 = .ok (.istore 7, 2) := by decide +kernel
theorem dX3_ranOnce_90 : decode cX3_ranOnce 90 = .ok (.aload_n 0, 1) := by decide +kernel
theorem dX3_ranOnce_91 : decode cX3_ranOnce 91 = .ok (.getfield 9, 3) := by decide +kernel
theorem dX3_ranOnce_94 : decode cX3_ranOnce 94 = .ok (.iload 7, 2) := by decide +kernel
theorem dX3_ranOnce_96 : decode cX3_ranOnce 96 = .ok (.lload_n 3, 1) := by decide +kernel
theorem dX3_ranOnce_97 : decode cX3_ranOnce 97 = .ok (.l2i, 1) := by decide +kernel
theorem dX3_ranOnce_98 : decode cX3_ranOnce 98 = .ok (.lload 5, 2) := by decide +kernel
theorem dX3_ranOnce_100 : decode cX3_ranOnce 100 = .ok (.l2i, 1) := by decide +kernel
theorem dX3_ranOnce_101 : decode cX3_ranOnce 101 = .ok (.invokevirtual 72, 3) := by decide +kernel
theorem dX3_ranOnce_104 : decode cX3_ranOnce 104 = .ok (.istore 8, 2) := by decide +kernel
theorem dX3_ranOnce_106 : decode cX3_ranOnce 106 = .ok (.iload 8, 2) := by decide +kernel
theorem dX3_ranOnce_108 : decode cX3_ranOnce 108 = .ok (.ifCond .ge 5, 3) := by decide +kernel
theorem dX3_ranOnce_111 : decode cX3_ranOnce 111 = .ok (.iconst 0, 1) := by decide +kernel
theorem dX3_ranOnce_112 : decode cX3_ranOnce 112 = .ok (.ireturn, 1) := by decide +kernel
theorem dX3_ranOnce_113 : decode cX3_ranOnce 113 = .ok (.aload_n 0, 1) := by decide +kernel
theorem dX3_ranOnce_114 : decode cX3_ranOnce 114 = .ok (.dup, 1) := by decide +kernel
theorem dX3_ranOnce_115 : decode cX3_ranOnce 115 = .ok (.getfield 32, 3) := by decide +kernel
theorem dX3_ranOnce_118 : decode cX3_ranOnce 118 = .ok (.iconst 1, 1) := by decide +kernel
theorem dX3_ranOnce_119 : decode cX3_ranOnce 119 = .ok (.iadd, 1) := by decide +kernel
theorem dX3_ranOnce_120 : decode cX3_ranOnce 120 = .ok (.putfield 32, 3) := by decide +kernel
theorem dX3_ranOnce_123 : decode cX3_ranOnce 123 = .ok (.iload 7, 2) := by decide +kernel
theorem dX3_ranOnce_125 : decode cX3_ranOnce 125 = .ok (.iconst 1, 1) := by decide +kernel
theorem dX3_ranOnce_126 : decode cX3_ranOnce 126 = .ok (.if_icmp .ne 9, 3) := by decide +kernel
theorem dX3_ranOnce_129 : decode cX3_ranOnce 129 = .ok (.aload_n 0, 1) := by decide +kernel
theorem dX3_ranOnce_130 : decode cX3_ranOnce 130 = .ok (.iload 8, 2) := by decide +kernel
theorem dX3_ranOnce_132 : decode cX3_ranOnce 132 = .ok (.putfield 35, 3) := by decide +kernel
theorem dX3_ranOnce_135 : decode cX3_ranOnce 135 = .ok (.iconst 1, 1) := by decide +kernel
theorem dX3_ranOnce_136 : decode cX3_ranOnce 136 = .ok (.ireturn, 1) := by decide +kernel
theorem dX3_tellWords_0 : decode cX3_tellWords 0 = .ok (.aload_n 0, 1) := by decide +kernel
theorem dX3_tellWords_1 : decode cX3_tellWords 1 = .ok (.getfield 19, 3) := by decide +kernel
theorem dX3_tellWords_4 : decode cX3_tellWords 4 = .ok (.iconst 0, 1) := by decide +kernel
theorem dX3_tellWords_5 : decode cX3_tellWords 5 = .ok (.aload_n 1, 1) := by decide +kernel
theorem dX3_tellWords_6 : decode cX3_tellWords 6 = .ok (.getfield 76, 3) := by decide +kernel
theorem dX3_tellWords_9 : decode cX3_tellWords 9 = .ok (.iconst 0, 1) := by decide +kernel
theorem dX3_tellWords_10 : decode cX3_tellWords 10 = .ok (.iaload, 1) := by decide +kernel
theorem dX3_tellWords_11 : decode cX3_tellWords 11 = .ok (.iastore, 1) := by decide +kernel
theorem dX3_tellWords_12 : decode cX3_tellWords 12 = .ok (.aload_n 0, 1) := by decide +kernel
theorem dX3_tellWords_13 : decode cX3_tellWords 13 = .ok (.getfield 19, 3) := by decide +kernel
theorem dX3_tellWords_16 : decode cX3_tellWords 16 = .ok (.iconst 1, 1) := by decide +kernel
theorem dX3_tellWords_17 : decode cX3_tellWords 17 = .ok (.aload_n 0, 1) := by decide +kernel
theorem dX3_tellWords_18 : decode cX3_tellWords 18 = .ok (.getfield 32, 3) := by decide +kernel
theorem dX3_tellWords_21 : decode cX3_tellWords 21 = .ok (.iastore, 1) := by decide +kernel
theorem dX3_tellWords_22 : decode cX3_tellWords 22 = .ok (.aload_n 0, 1) := by decide +kernel
theorem dX3_tellWords_23 : decode cX3_tellWords 23 = .ok (.getfield 19, 3) := by decide +kernel
theorem dX3_tellWords_26 : decode cX3_tellWords 26 = .ok (.iconst 2, 1) := by decide +kernel
theorem dX3_tellWords_27 : decode cX3_tellWords 27 = .ok (.aload_n 0, 1) := by decide +kernel
theorem dX3_tellWords_28 : decode cX3_tellWords 28 = .ok (.getfield 35, 3) := by decide +kernel
theorem dX3_tellWords_31 : decode cX3_tellWords 31 = .ok (.iastore, 1) := by decide +kernel
theorem dX3_tellWords_32 : decode cX3_tellWords 32 = .ok (.aload_n 0, 1) := by decide +kernel
theorem dX3_tellWords_33 : decode cX3_tellWords 33 = .ok (.getfield 19, 3) := by decide +kernel
theorem dX3_tellWords_36 : decode cX3_tellWords 36 = .ok (.iconst 3, 1) := by decide +kernel
theorem dX3_tellWords_37 : decode cX3_tellWords 37 = .ok (.aload_n 1, 1) := by decide +kernel
theorem dX3_tellWords_38 : decode cX3_tellWords 38 = .ok (.invokevirtual 81, 3) := by decide +kernel
theorem dX3_tellWords_41 : decode cX3_tellWords 41 = .ok (.iastore, 1) := by decide +kernel
theorem dX3_tellWords_42 : decode cX3_tellWords 42 = .ok (.iconst 0, 1) := by decide +kernel
theorem dX3_tellWords_43 : decode cX3_tellWords 43 = .ok (.istore_n 2, 1) := by decide +kernel
theorem dX3_tellWords_44 : decode cX3_tellWords 44 = .ok (.iload_n 2, 1) := by decide +kernel
theorem dX3_tellWords_45 : decode cX3_tellWords 45 = .ok (.bipush 6, 2) := by decide +kernel
theorem dX3_tellWords_47 : decode cX3_tellWords 47 = .ok (.if_icmp .ge 62, 3) := by decide +kernel
theorem dX3_tellWords_50 : decode cX3_tellWords 50 = .ok (.aload_n 0, 1) := by decide +kernel
theorem dX3_tellWords_51 : decode cX3_tellWords 51 = .ok (.getfield 19, 3) := by decide +kernel
theorem dX3_tellWords_54 : decode cX3_tellWords 54 = .ok (.iconst 4, 1) := by decide +kernel
theorem dX3_tellWords_55 : decode cX3_tellWords 55 = .ok (.iload_n 2, 1) := by decide +kernel
theorem dX3_tellWords_56 : decode cX3_tellWords 56 = .ok (.iadd, 1) := by decide +kernel
theorem dX3_tellWords_57 : decode cX3_tellWords 57 = .ok (.aload_n 1, 1) := by decide +kernel
theorem dX3_tellWords_58 : decode cX3_tellWords 58 = .ok (.iload_n 2, 1) := by decide +kernel
theorem dX3_tellWords_59 : decode cX3_tellWords 59 = .ok (.invokevirtual 85, 3) := by decide +kernel
theorem dX3_tellWords_62 : decode cX3_tellWords 62 = .ok (.ifCond .eq 12, 3) := by decide +kernel
theorem dX3_tellWords_65 : decode cX3_tellWords 65 = .ok (.aload_n 1, 1) := by decide +kernel
theorem dX3_tellWords_66 : decode cX3_tellWords 66 = .ok (.getfield 89, 3) := by decide +kernel
theorem dX3_tellWords_69 : decode cX3_tellWords 69 = .ok (.iload_n 2, 1) := by decide +kernel
theorem dX3_tellWords_70 : decode cX3_tellWords 70 = .ok (.iaload, 1) := by decide +kernel
theorem dX3_tellWords_71 : decode cX3_tellWords 71 = .ok (.goto 4, 3) := by decide +kernel
theorem dX3_tellWords_74 : decode cX3_tellWords 74 = .ok (.iconst (-1), 1) := by decide +kernel
theorem dX3_tellWords_75 : decode cX3_tellWords 75 = .ok (.iastore, 1) := by decide +kernel
theorem dX3_tellWords_76 : decode cX3_tellWords 76 = .ok (.aload_n 0, 1) := by decide +kernel
theorem dX3_tellWords_77 : decode cX3_tellWords 77 = .ok (.getfield 19, 3) := by decide +kernel
theorem dX3_tellWords_80 : decode cX3_tellWords 80 = .ok (.bipush 10, 2) := by decide +kernel
theorem dX3_tellWords_82 : decode cX3_tellWords 82 = .ok (.iload_n 2, 1) := by decide +kernel
theorem dX3_tellWords_83 : decode cX3_tellWords 83 = .ok (.iadd, 1) := by decide +kernel
theorem dX3_tellWords_84 : decode cX3_tellWords 84 = .ok (.aload_n 1, 1) := by decide +kernel
theorem dX3_tellWords_85 : decode cX3_tellWords 85 = .ok (.iload_n 2, 1) := by decide +kernel
theorem dX3_tellWords_86 : decode cX3_tellWords 86 = .ok (.invokevirtual 85, 3) := by decide +kernel
theorem dX3_tellWords_89 : decode cX3_tellWords 89 = .ok (.ifCond .eq 12, 3) := by decide +kernel
theorem dX3_tellWords_92 : decode cX3_tellWords 92 = .ok (.aload_n 1, 1) := by decide +kernel
theorem dX3_tellWords_93 : decode cX3_tellWords 93 = .ok (.getfield 92, 3) := by decide +kernel
theorem dX3_tellWords_96 : decode cX3_tellWords 96 = .ok (.iload_n 2, 1) := by decide +kernel
theorem dX3_tellWords_97 : decode cX3_tellWords 97 = .ok (.iaload, 1) := by decide +kernel
theorem dX3_tellWords_98 : decode cX3_tellWords 98 = .ok (.goto 4, 3) := by decide +kernel
theorem dX3_tellWords_101 : decode cX3_tellWords 101 = .ok (.iconst (-1), 1) := by decide +kernel
theorem dX3_tellWords_102 : decode cX3_tellWords 102 = .ok (.iastore, 1) := by decide +kernel
theorem dX3_tellWords_103 : decode cX3_tellWords 103 = .ok (.iinc 2 1, 3) := by decide +kernel
theorem dX3_tellWords_106 : decode cX3_tellWords 106 = .ok (.goto (-62), 3) := by decide +kernel
theorem dX3_tellWords_109 : decode cX3_tellWords 109 = .ok (.iconst 0, 1) := by decide +kernel
theorem dX3_tellWords_110 : decode cX3_tellWords 110 = .ok (.istore_n 2, 1) := by decide +kernel
theorem dX3_tellWords_111 : decode cX3_tellWords 111 = .ok (.iload_n 2, 1) := by decide +kernel
theorem dX3_tellWords_112 : decode cX3_tellWords 112 = .ok (.iconst 3, 1) := by decide +kernel
theorem dX3_tellWords_113 : decode cX3_tellWords 113 = .ok (.if_icmp .ge 38, 3) := by decide +kernel
theorem dX3_tellWords_116 : decode cX3_tellWords 116 = .ok (.aload_n 0, 1) := by decide +kernel
theorem dX3_tellWords_117 : decode cX3_tellWords 117 = .ok (.getfield 19, 3) := by decide +kernel
theorem dX3_tellWords_120 : decode cX3_tellWords 120 = .ok (.bipush 16, 2) := by decide +kernel
theorem dX3_tellWords_122 : decode cX3_tellWords 122 = .ok (.iload_n 2, 1) := by decide +kernel
theorem dX3_tellWords_123 : decode cX3_tellWords 123 = .ok (.iadd, 1) := by decide +kernel
theorem dX3_tellWords_124 : decode cX3_tellWords 124 = .ok (.aload_n 1, 1) := by decide +kernel
theorem dX3_tellWords_125 : decode cX3_tellWords 125 = .ok (.iload_n 2, 1) := by decide +kernel
theorem dX3_tellWords_126 : decode cX3_tellWords 126 = .ok (.invokevirtual 95, 3) := by decide +kernel
theorem dX3_tellWords_129 : decode cX3_tellWords 129 = .ok (.ifCond .eq 14, 3) := by decide +kernel
theorem dX3_tellWords_132 : decode cX3_tellWords 132 = .ok (.aload_n 1, 1) := by decide +kernel
theorem dX3_tellWords_133 : decode cX3_tellWords 133 = .ok (.iload_n 2, 1) := by decide +kernel
theorem dX3_tellWords_134 : decode cX3_tellWords 134 = .ok (.invokevirtual 98, 3) := by decide +kernel
theorem dX3_tellWords_137 : decode cX3_tellWords 137 = .ok (.invokestatic 102, 3) := by decide +kernel
theorem dX3_tellWords_140 : decode cX3_tellWords 140 = .ok (.goto 4, 3) := by decide +kernel
theorem dX3_tellWords_143 : decode cX3_tellWords 143 = .ok (.iconst (-1), 1) := by decide +kernel
theorem dX3_tellWords_144 : decode cX3_tellWords 144 = .ok (.iastore, 1) := by decide +kernel
theorem dX3_tellWords_145 : decode cX3_tellWords 145 = .ok (.iinc 2 1, 3) := by decide +kernel
theorem dX3_tellWords_148 : decode cX3_tellWords 148 = .ok (.goto (-37), 3) := by decide +kernel
theorem dX3_tellWords_151 : decode cX3_tellWords 151 = .ok (.return_, 1) := by decide +kernel
theorem dX4_init_0 : decode cX4_init 0 = .ok (.aload_n 0, 1) := by decide +kernel
theorem dX4_init_1 : decode cX4_init 1 = .ok (.invokespecial 3, 3) := by decide +kernel
theorem dX4_init_4 : decode cX4_init 4 = .ok (.aload_n 0, 1) := by decide +kernel
theorem dX4_init_5 : decode cX4_init 5 = .ok (.bipush 16, 2) := by decide +kernel
theorem dX4_init_7 : decode cX4_init 7 = .ok (.bipush 31, 2) := by decide +kernel
theorem dX4_init_9 : decode cX4_init 9 = .ok (.multianewarray 13 2, 4) := by decide +kernel
theorem dX4_init_13 : decode cX4_init 13 = .ok (.putfield 15, 3) := by decide +kernel
theorem dX4_init_16 : decode cX4_init 16 = .ok (.aload_n 0, 1) := by decide +kernel
theorem dX4_init_17 : decode cX4_init 17 = .ok (.bipush 16, 2) := by decide +kernel
theorem dX4_init_19 : decode cX4_init 19 = .ok (.newarray .int, 2) := by decide +kernel
theorem dX4_init_21 : decode cX4_init 21 = .ok (.putfield 18, 3) := by decide +kernel
theorem dX4_init_24 : decode cX4_init 24 = .ok (.return_, 1) := by decide +kernel
theorem dX4_howMany_0 : decode cX4_howMany 0 = .ok (.aload_n 0, 1) := by decide +kernel
theorem dX4_howMany_1 : decode cX4_howMany 1 = .ok (.getfield 22, 3) := by decide +kernel
theorem dX4_howMany_4 : decode cX4_howMany 4 = .ok (.ireturn, 1) := by decide +kernel
theorem dX4_empty_0 : decode cX4_empty 0 = .ok (.aload_n 0, 1) := by decide +kernel
theorem dX4_empty_1 : decode cX4_empty 1 = .ok (.iconst 0, 1) := by decide +kernel
theorem dX4_empty_2 : decode cX4_empty 2 = .ok (.putfield 22, 3) := by decide +kernel
theorem dX4_empty_5 : decode cX4_empty 5 = .ok (.return_, 1) := by decide +kernel
theorem dX4_keep_0 : decode cX4_keep 0 = .ok (.aload_n 0, 1) := by decide +kernel
theorem dX4_keep_1 : decode cX4_keep 1 = .ok (.aload_n 0, 1) := by decide +kernel
theorem dX4_keep_2 : decode cX4_keep 2 = .ok (.getfield 26, 3) := by decide +kernel
theorem dX4_keep_5 : decode cX4_keep 5 = .ok (.iconst 1, 1) := by decide +kernel
theorem dX4_keep_6 : decode cX4_keep 6 = .ok (.iadd, 1) := by decide +kernel
theorem dX4_keep_7 : decode cX4_keep 7 = .ok (.bipush 16, 2) := by decide +kernel
theorem dX4_keep_9 : decode cX4_keep 9 = .ok (.irem, 1) := by decide +kernel
theorem dX4_keep_10 : decode cX4_keep 10 = .ok (.putfield 26, 3) := by decide +kernel
theorem dX4_keep_13 : decode cX4_keep 13 = .ok (.aload_n 0, 1) := by decide +kernel
theorem dX4_keep_14 : decode cX4_keep 14 = .ok (.bipush 16, 2) := by decide +kernel
theorem dX4_keep_16 : decode cX4_keep 16 = .ok (.aload_n 0, 1) := by decide +kernel
theorem dX4_keep_17 : decode cX4_keep 17 = .ok (.getfield 22, 3) := by decide +kernel
theorem dX4_keep_20 : decode cX4_keep 20 = .ok (.iconst 1, 1) := by decide +kernel
theorem dX4_keep_21 : decode cX4_keep 21 = .ok (.iadd, 1) := by decide +kernel
theorem dX4_keep_22 : decode cX4_keep 22 = .ok (.invokestatic 29, 3) := by decide +kernel
theorem dX4_keep_25 : decode cX4_keep 25 = .ok (.putfield 22, 3) := by decide +kernel
theorem dX4_keep_28 : decode cX4_keep 28 = .ok (.aload_n 0, 1) := by decide +kernel
theorem dX4_keep_29 : decode cX4_keep 29 = .ok (.getfield 18, 3) := by decide +kernel
theorem dX4_keep_32 : decode cX4_keep 32 = .ok (.aload_n 0, 1) := by decide +kernel
theorem dX4_keep_33 : decode cX4_keep 33 = .ok (.getfield 26, 3) := by decide +kernel
theorem dX4_keep_36 : decode cX4_keep 36 = .ok (.iload_n 1, 1) := by decide +kernel
theorem dX4_keep_37 : decode cX4_keep 37 = .ok (.iastore, 1) := by decide +kernel
theorem dX4_keep_38 : decode cX4_keep 38 = .ok (.aload_n 2, 1) := by decide +kernel
theorem dX4_keep_39 : decode cX4_keep 39 = .ok (.aload_n 0, 1) := by decide +kernel
theorem dX4_keep_40 : decode cX4_keep 40 = .ok (.getfield 15, 3) := by decide +kernel
theorem dX4_keep_43 : decode cX4_keep 43 = .ok (.aload_n 0, 1) := by decide +kernel
theorem dX4_keep_44 : decode cX4_keep 44 = .ok (.getfield 26, 3) := by decide +kernel
theorem dX4_keep_47 : decode cX4_keep 47 = .ok (.aaload, 1) := by decide +kernel
theorem dX4_keep_48 : decode cX4_keep 48 = .ok (.invokevirtual 35, 3) := by decide +kernel
theorem dX4_keep_51 : decode cX4_keep 51 = .ok (.return_, 1) := by decide +kernel
theorem dX4_takeNewest_0 : decode cX4_takeNewest 0 = .ok (.aload_n 0, 1) := by decide +kernel
theorem dX4_takeNewest_1 : decode cX4_takeNewest 1 = .ok (.getfield 22, 3) := by decide +kernel
theorem dX4_takeNewest_4 : decode cX4_takeNewest 4 = .ok (.ifCond .ne 5, 3) := by decide +kernel
theorem dX4_takeNewest_7 : decode cX4_takeNewest 7 = .ok (.iconst (-1), 1) := by decide +kernel
theorem dX4_takeNewest_8 : decode cX4_takeNewest 8 = .ok (.ireturn, 1) := by decide +kernel
theorem dX4_takeNewest_9 : decode cX4_takeNewest 9 = .ok (.aload_n 0, 1) := by decide +kernel
theorem dX4_takeNewest_10 : decode cX4_takeNewest 10 = .ok (.getfield 18, 3) := by decide +kernel
theorem dX4_takeNewest_13 : decode cX4_takeNewest 13 = .ok (.aload_n 0, 1) := by decide +kernel
theorem dX4_takeNewest_14 : decode cX4_takeNewest 14 = .ok (.getfield 26, 3) := by decide +kernel
theorem dX4_takeNewest_17 : decode cX4_takeNewest 17 = .ok (.iaload, 1) := by decide +kernel
theorem dX4_takeNewest_18 : decode cX4_takeNewest 18 = .ok (.istore_n 2, 1) := by decide +kernel
theorem dX4_takeNewest_19 : decode cX4_takeNewest 19 = .ok (.aload_n 1, 1) := by decide +kernel
theorem dX4_takeNewest_20 : decode cX4_takeNewest 20 = .ok (.aload_n 0, 1) := by decide +kernel
theorem dX4_takeNewest_21 : decode cX4_takeNewest 21 = .ok (.getfield 15, 3) := by decide +kernel
theorem dX4_takeNewest_24 : decode cX4_takeNewest 24 = .ok (.aload_n 0, 1) := by decide +kernel
theorem dX4_takeNewest_25 : decode cX4_takeNewest 25 = .ok (.getfield 26, 3) := by decide +kernel
theorem dX4_takeNewest_28 : decode cX4_takeNewest 28 = .ok (.aaload, 1) := by decide +kernel
theorem dX4_takeNewest_29 : decode cX4_takeNewest 29 = .ok (.invokevirtual 39, 3) := by decide +kernel
theorem dX4_takeNewest_32 : decode cX4_takeNewest 32 = .ok (.aload_n 0, 1) := by decide +kernel
theorem dX4_takeNewest_33 : decode cX4_takeNewest 33 = .ok (.aload_n 0, 1) := by decide +kernel
theorem dX4_takeNewest_34 : decode cX4_takeNewest 34 = .ok (.getfield 26, 3) := by decide +kernel
theorem dX4_takeNewest_37 : decode cX4_takeNewest 37 = .ok (.bipush 16, 2) := by decide +kernel
theorem dX4_takeNewest_39 : decode cX4_takeNewest 39 = .ok (.iadd, 1) := by decide +kernel
theorem dX4_takeNewest_40 : decode cX4_takeNewest 40 = .ok (.iconst 1, 1) := by decide +kernel
theorem dX4_takeNewest_41 : decode cX4_takeNewest 41 = .ok (.isub, 1) := by decide +kernel
theorem dX4_takeNewest_42 : decode cX4_takeNewest 42 = .ok (.bipush 16, 2) := by decide +kernel
theorem dX4_takeNewest_44 : decode cX4_takeNewest 44 = .ok (.irem, 1) := by decide +kernel
theorem dX4_takeNewest_45 : decode cX4_takeNewest 45 = .ok (.putfield 26, 3) := by decide +kernel
theorem dX4_takeNewest_48 : decode cX4_takeNewest 48 = .ok (.aload_n 0, 1) := by decide +kernel
theorem dX4_takeNewest_49 : decode cX4_takeNewest 49 = .ok (.dup, 1) := by decide +kernel
theorem dX4_takeNewest_50 : decode cX4_takeNewest 50 = .ok (.getfield 22, 3) := by decide +kernel
theorem dX4_takeNewest_53 : decode cX4_takeNewest 53 = .ok (.iconst 1, 1) := by decide +kernel
theorem dX4_takeNewest_54 : decode cX4_takeNewest 54 = .ok (.isub, 1) := by decide +kernel
theorem dX4_takeNewest_55 : decode cX4_takeNewest 55 = .ok (.putfield 22, 3) := by decide +kernel
theorem dX4_takeNewest_58 : decode cX4_takeNewest 58 = .ok (.iload_n 2, 1) := by decide +kernel
theorem dX4_takeNewest_59 : decode cX4_takeNewest 59 = .ok (.ireturn, 1) := by decide +kernel
theorem dX4_copyFrom_0 : decode cX4_copyFrom 0 = .ok (.iconst 0, 1) := by decide +kernel
theorem dX4_copyFrom_1 : decode cX4_copyFrom 1 = .ok (.istore_n 2, 1) := by decide +kernel
theorem dX4_copyFrom_2 : decode cX4_copyFrom 2 = .ok (.iload_n 2, 1) := by decide +kernel
theorem dX4_copyFrom_3 : decode cX4_copyFrom 3 = .ok (.bipush 16, 2) := by decide +kernel
theorem dX4_copyFrom_5 : decode cX4_copyFrom 5 = .ok (.if_icmp .ge 28, 3) := by decide +kernel
theorem dX4_copyFrom_8 : decode cX4_copyFrom 8 = .ok (.aload_n 1, 1) := by decide +kernel
theorem dX4_copyFrom_9 : decode cX4_copyFrom 9 = .ok (.getfield 15, 3) := by decide +kernel
theorem dX4_copyFrom_12 : decode cX4_copyFrom 12 = .ok (.iload_n 2, 1) := by decide +kernel
theorem dX4_copyFrom_13 : decode cX4_copyFrom 13 = .ok (.aaload, 1) := by decide +kernel
theorem dX4_copyFrom_14 : decode cX4_copyFrom 14 = .ok (.iconst 0, 1) := by decide +kernel
theorem dX4_copyFrom_15 : decode cX4_copyFrom 15 = .ok (.aload_n 0, 1) := by decide +kernel
theorem dX4_copyFrom_16 : decode cX4_copyFrom 16 = .ok (.getfield 15, 3) := by decide +kernel
theorem dX4_copyFrom_19 : decode cX4_copyFrom 19 = .ok (.iload_n 2, 1) := by decide +kernel
theorem dX4_copyFrom_20 : decode cX4_copyFrom 20 = .ok (.aaload, 1) := by decide +kernel
theorem dX4_copyFrom_21 : decode cX4_copyFrom 21 = .ok (.iconst 0, 1) := by decide +kernel
theorem dX4_copyFrom_22 : decode cX4_copyFrom 22 = .ok (.bipush 31, 2) := by decide +kernel
theorem dX4_copyFrom_24 : decode cX4_copyFrom 24 = .ok (.invokestatic 42, 3) := by decide +kernel
theorem dX4_copyFrom_27 : decode cX4_copyFrom 27 = .ok (.iinc 2 1, 3) := by decide +kernel
theorem dX4_copyFrom_30 : decode cX4_copyFrom 30 = .ok (.goto (-28), 3) := by decide +kernel
theorem dX4_copyFrom_33 : decode cX4_copyFrom 33 = .ok (.aload_n 1, 1) := by decide +kernel
theorem dX4_copyFrom_34 : decode cX4_copyFrom 34 = .ok (.getfield 18, 3) := by decide +kernel
theorem dX4_copyFrom_37 : decode cX4_copyFrom 37 = .ok (.iconst 0, 1) := by decide +kernel
theorem dX4_copyFrom_38 : decode cX4_copyFrom 38 = .ok (.aload_n 0, 1) := by decide +kernel
theorem dX4_copyFrom_39 : decode cX4_copyFrom 39 = .ok (.getfield 18, 3) := by decide +kernel
theorem dX4_copyFrom_42 : decode cX4_copyFrom 42 = .ok (.iconst 0, 1) := by decide +kernel
theorem dX4_copyFrom_43 : decode cX4_copyFrom 43 = .ok (.bipush 16, 2) := by decide +kernel
theorem dX4_copyFrom_45 : decode cX4_copyFrom 45 = .ok (.invokestatic 42, 3) := by decide +kernel
theorem dX4_copyFrom_48 : decode cX4_copyFrom 48 = .ok (.aload_n 0, 1) := by decide +kernel
theorem dX4_copyFrom_49 : decode cX4_copyFrom 49 = .ok (.aload_n 1, 1) := by decide +kernel
theorem dX4_copyFrom_50 : decode cX4_copyFrom 50 = .ok (.getfield 26, 3) := by decide +kernel
theorem dX4_copyFrom_53 : decode cX4_copyFrom 53 = .ok (.putfield 26, 3) := by decide +kernel
theorem dX4_copyFrom_56 : decode cX4_copyFrom 56 = .ok (.aload_n 0, 1) := by decide +kernel
theorem dX4_copyFrom_57 : decode cX4_copyFrom 57 = .ok (.aload_n 1, 1) := by decide +kernel
theorem dX4_copyFrom_58 : decode cX4_copyFrom 58 = .ok (.getfield 22, 3) := by decide +kernel
theorem dX4_copyFrom_61 : decode cX4_copyFrom 61 = .ok (.putfield 22, 3) := by decide +kernel
theorem dX4_copyFrom_64 : decode cX4_copyFrom 64 = .ok (.return_, 1) := by decide +kernel
theorem dX5_init_0 : decode cX5_init 0 = .ok (.aload_n 0, 1) := by decide +kernel
theorem dX5_init_1 : decode cX5_init 1 = .ok (.invokespecial 3, 3) := by decide +kernel
theorem dX5_init_4 : decode cX5_init 4 = .ok (.aload_n 0, 1) := by decide +kernel
theorem dX5_init_5 : decode cX5_init 5 = .ok (.bipush 6, 2) := by decide +kernel
theorem dX5_init_7 : decode cX5_init 7 = .ok (.newarray .int, 2) := by decide +kernel
theorem dX5_init_9 : decode cX5_init 9 = .ok (.putfield 9, 3) := by decide +kernel
theorem dX5_init_12 : decode cX5_init 12 = .ok (.aload_n 0, 1) := by decide +kernel
theorem dX5_init_13 : decode cX5_init 13 = .ok (.bipush 6, 2) := by decide +kernel
theorem dX5_init_15 : decode cX5_init 15 = .ok (.newarray .int, 2) := by decide +kernel
theorem dX5_init_17 : decode cX5_init 17 = .ok (.putfield 15, 3) := by decide +kernel
theorem dX5_init_20 : decode cX5_init 20 = .ok (.aload_n 0, 1) := by decide +kernel
theorem dX5_init_21 : decode cX5_init 21 = .ok (.bipush 6, 2) := by decide +kernel
theorem dX5_init_23 : decode cX5_init 23 = .ok (.newarray .int, 2) := by decide +kernel
theorem dX5_init_25 : decode cX5_init 25 = .ok (.putfield 18, 3) := by decide +kernel
theorem dX5_init_28 : decode cX5_init 28 = .ok (.aload_n 0, 1) := by decide +kernel
theorem dX5_init_29 : decode cX5_init 29 = .ok (.bipush 6, 2) := by decide +kernel
theorem dX5_init_31 : decode cX5_init 31 = .ok (.newarray .int, 2) := by decide +kernel
theorem dX5_init_33 : decode cX5_init 33 = .ok (.putfield 21, 3) := by decide +kernel
theorem dX5_init_36 : decode cX5_init 36 = .ok (.aload_n 0, 1) := by decide +kernel
theorem dX5_init_37 : decode cX5_init 37 = .ok (.bipush 6, 2) := by decide +kernel
theorem dX5_init_39 : decode cX5_init 39 = .ok (.newarray .int, 2) := by decide +kernel
theorem dX5_init_41 : decode cX5_init 41 = .ok (.putfield 24, 3) := by decide +kernel
theorem dX5_init_44 : decode cX5_init 44 = .ok (.aload_n 0, 1) := by decide +kernel
theorem dX5_init_45 : decode cX5_init 45 = .ok (.iconst 3, 1) := by decide +kernel
theorem dX5_init_46 : decode cX5_init 46 = .ok (.newarray .int, 2) := by decide +kernel
theorem dX5_init_48 : decode cX5_init 48 = .ok (.putfield 27, 3) := by decide +kernel
theorem dX5_init_51 : decode cX5_init 51 = .ok (.aload_n 0, 1) := by decide +kernel
theorem dX5_init_52 : decode cX5_init 52 = .ok (.bipush 8, 2) := by decide +kernel
theorem dX5_init_54 : decode cX5_init 54 = .ok (.newarray .int, 2) := by decide +kernel
theorem dX5_init_56 : decode cX5_init 56 = .ok (.putfield 30, 3) := by decide +kernel
theorem dX5_init_59 : decode cX5_init 59 = .ok (.aload_n 0, 1) := by decide +kernel
theorem dX5_init_60 : decode cX5_init 60 = .ok (.iconst 3, 1) := by decide +kernel
theorem dX5_init_61 : decode cX5_init 61 = .ok (.newarray .int, 2) := by decide +kernel
theorem dX5_init_63 : decode cX5_init 63 = .ok (.putfield 33, 3) := by decide +kernel
theorem dX5_init_66 : decode cX5_init 66 = .ok (.aload_n 0, 1) := by decide +kernel
theorem dX5_init_67 : decode cX5_init 67 = .ok (.getfield 33, 3) := by decide +kernel
theorem dX5_init_70 : decode cX5_init 70 = .ok (.iconst 1, 1) := by decide +kernel
theorem dX5_init_71 : decode cX5_init 71 = .ok (.iconst 1, 1) := by decide +kernel
theorem dX5_init_72 : decode cX5_init 72 = .ok (.iastore, 1) := by decide +kernel
theorem dX5_init_73 : decode cX5_init 73 = .ok (.aload_n 0, 1) := by decide +kernel
theorem dX5_init_74 : decode cX5_init 74 = .ok (.bipush 6, 2) := by decide +kernel
theorem dX5_init_76 : decode cX5_init 76 = .ok (.anewarray 36, 3) := by decide +kernel
theorem dX5_init_79 : decode cX5_init 79 = .ok (.putfield 38, 3) := by decide +kernel
theorem dX5_init_82 : decode cX5_init 82 = .ok (.aload_n 0, 1) := by decide +kernel
theorem dX5_init_83 : decode cX5_init 83 = .ok (.iconst (-1), 1) := by decide +kernel
theorem dX5_init_84 : decode cX5_init 84 = .ok (.putfield 42, 3) := by decide +kernel
theorem dX5_init_87 : decode cX5_init 87 = .ok (.return_, 1) := by decide +kernel
theorem dX5_hasCat_0 : decode cX5_hasCat 0 = .ok (.iload_n 1, 1) := by decide +kernel
theorem dX5_hasCat_1 : decode cX5_hasCat 1 = .ok (.ifCond .lt 15, 3) := by decide +kernel
theorem dX5_hasCat_4 : decode cX5_hasCat 4 = .ok (.iload_n 1, 1) := by decide +kernel
theorem dX5_hasCat_5 : decode cX5_hasCat 5 = .ok (.aload_n 0, 1) := by decide +kernel
theorem dX5_hasCat_6 : decode cX5_hasCat 6 = .ok (.getfield 46, 3) := by decide +kernel
theorem dX5_hasCat_9 : decode cX5_hasCat 9 = .ok (.if_icmp .ge 7, 3) := by decide +kernel
theorem dX5_hasCat_12 : decode cX5_hasCat 12 = .ok (.iconst 1, 1) := by decide +kernel
theorem dX5_hasCat_13 : decode cX5_hasCat 13 = .ok (.goto 4, 3) := by decide +kernel
theorem dX5_hasCat_16 : decode cX5_hasCat 16 = .ok (.iconst 0, 1) := by decide +kernel
theorem dX5_hasCat_17 : decode cX5_hasCat 17 = .ok (.ireturn, 1) := by decide +kernel
theorem dX5_isHere_0 : decode cX5_isHere 0 = .ok (.aload_n 0, 1) := by decide +kernel
theorem dX5_isHere_1 : decode cX5_isHere 1 = .ok (.iload_n 1, 1) := by decide +kernel
theorem dX5_isHere_2 : decode cX5_isHere 2 = .ok (.invokevirtual 49, 3) := by decide +kernel
theorem dX5_isHere_5 : decode cX5_isHere 5 = .ok (.ifCond .eq 17, 3) := by decide +kernel
theorem dX5_isHere_8 : decode cX5_isHere 8 = .ok (.aload_n 0, 1) := by decide +kernel
theorem dX5_isHere_9 : decode cX5_isHere 9 = .ok (.getfield 9, 3) := by decide +kernel
theorem dX5_isHere_12 : decode cX5_isHere 12 = .ok (.iload_n 1, 1) := by decide +kernel
theorem dX5_isHere_13 : decode cX5_isHere 13 = .ok (.iaload, 1) := by decide +kernel
theorem dX5_isHere_14 : decode cX5_isHere 14 = .ok (.iconst (-1), 1) := by decide +kernel
theorem dX5_isHere_15 : decode cX5_isHere 15 = .ok (.if_icmp .eq 7, 3) := by decide +kernel
theorem dX5_isHere_18 : decode cX5_isHere 18 = .ok (.iconst 1, 1) := by decide +kernel
theorem dX5_isHere_19 : decode cX5_isHere 19 = .ok (.goto 4, 3) := by decide +kernel
theorem dX5_isHere_22 : decode cX5_isHere 22 = .ok (.iconst 0, 1) := by decide +kernel
theorem dX5_isHere_23 : decode cX5_isHere 23 = .ok (.ireturn, 1) := by decide +kernel
theorem dX5_hasShip_0 : decode cX5_hasShip 0 = .ok (.iload_n 1, 1) := by decide +kernel
theorem dX5_hasShip_1 : decode cX5_hasShip 1 = .ok (.ifCond .lt 15, 3) := by decide +kernel
theorem dX5_hasShip_4 : decode cX5_hasShip 4 = .ok (.iload_n 1, 1) := by decide +kernel
theorem dX5_hasShip_5 : decode cX5_hasShip 5 = .ok (.aload_n 0, 1) := by decide +kernel
theorem dX5_hasShip_6 : decode cX5_hasShip 6 = .ok (.getfield 53, 3) := by decide +kernel
theorem dX5_hasShip_9 : decode cX5_hasShip 9 = .ok (.if_icmp .ge 7, 3) := by decide +kernel
theorem dX5_hasShip_12 : decode cX5_hasShip 12 = .ok (.iconst 1, 1) := by decide +kernel
theorem dX5_hasShip_13 : decode cX5_hasShip 13 = .ok (.goto 4, 3) := by decide +kernel
theorem dX5_hasShip_16 : decode cX5_hasShip 16 = .ok (.iconst 0, 1) := by decide +kernel
theorem dX5_hasShip_17 : decode cX5_hasShip 17 = .ok (.ireturn, 1) := by decide +kernel
theorem dX5_hasLaw_0 : decode cX5_hasLaw 0 = .ok (.iload_n 1, 1) := by decide +kernel
theorem dX5_hasLaw_1 : decode cX5_hasLaw 1 = .ok (.ifCond .lt 15, 3) := by decide +kernel
theorem dX5_hasLaw_4 : decode cX5_hasLaw 4 = .ok (.iload_n 1, 1) := by decide +kernel
theorem dX5_hasLaw_5 : decode cX5_hasLaw 5 = .ok (.aload_n 0, 1) := by decide +kernel
theorem dX5_hasLaw_6 : decode cX5_hasLaw 6 = .ok (.getfield 56, 3) := by decide +kernel
theorem dX5_hasLaw_9 : decode cX5_hasLaw 9 = .ok (.if_icmp .ge 7, 3) := by decide +kernel
theorem dX5_hasLaw_12 : decode cX5_hasLaw 12 = .ok (.iconst 1, 1) := by decide +kernel
theorem dX5_hasLaw_13 : decode cX5_hasLaw 13 = .ok (.goto 4, 3) := by decide +kernel
theorem dX5_hasLaw_16 : decode cX5_hasLaw 16 = .ok (.iconst 0, 1) := by decide +kernel
theorem dX5_hasLaw_17 : decode cX5_hasLaw 17 = .ok (.ireturn, 1) := by decide +kernel
theorem dX5_lawOf_0 : decode cX5_lawOf 0 = .ok (.iload_n 1, 1) := by decide +kernel
theorem dX5_lawOf_1 : decode cX5_lawOf 1 = .ok (.ifCond .lt 20, 3) := by decide +kernel
theorem dX5_lawOf_4 : decode cX5_lawOf 4 = .ok (.iload_n 1, 1) := by decide +kernel
theorem dX5_lawOf_5 : decode cX5_lawOf 5 = .ok (.aload_n 0, 1) := by decide +kernel
theorem dX5_lawOf_6 : decode cX5_lawOf 6 = .ok (.getfield 56, 3) := by decide +kernel
theorem dX5_lawOf_9 : decode cX5_lawOf 9 = .ok (.if_icmp .ge 12, 3) := by decide +kernel
theorem dX5_lawOf_12 : decode cX5_lawOf 12 = .ok (.aload_n 0, 1) := by decide +kernel
theorem dX5_lawOf_13 : decode cX5_lawOf 13 = .ok (.getfield 38, 3) := by decide +kernel
theorem dX5_lawOf_16 : decode cX5_lawOf 16 = .ok (.iload_n 1, 1) := by decide +kernel
theorem dX5_lawOf_17 : decode cX5_lawOf 17 = .ok (.aaload, 1) := by decide +kernel
theorem dX5_lawOf_18 : decode cX5_lawOf 18 = .ok (.goto 4, 3) := by decide +kernel
theorem dX5_lawOf_21 : decode cX5_lawOf 21 = .ok (.aconst_null, 1) := by decide +kernel
theorem dX5_lawOf_22 : decode cX5_lawOf 22 = .ok (.areturn, 1) := by decide +kernel
theorem dX5_addCat_0 : decode cX5_addCat 0 = .ok (.aload_n 0, 1) := by decide +kernel
theorem dX5_addCat_1 : decode cX5_addCat 1 = .ok (.getfield 46, 3) := by decide +kernel
theorem dX5_addCat_4 : decode cX5_addCat 4 = .ok (.istore 4, 2) := by decide +kernel
theorem dX5_addCat_6 : decode cX5_addCat 6 = .ok (.aload_n 0, 1) := by decide +kernel
theorem dX5_addCat_7 : decode cX5_addCat 7 = .ok (.dup, 1) := by decide +kernel
theorem dX5_addCat_8 : decode cX5_addCat 8 = .ok (.getfield 46, 3) := by decide +kernel
theorem dX5_addCat_11 : decode cX5_addCat 11 = .ok (.iconst 1, 1) := by decide +kernel
theorem dX5_addCat_12 : decode cX5_addCat 12 = .ok (.iadd, 1) := by decide +kernel
theorem dX5_addCat_13 : decode cX5_addCat 13 = .ok (.putfield 46, 3) := by decide +kernel
theorem dX5_addCat_16 : decode cX5_addCat 16 = .ok (.aload_n 0, 1) := by decide +kernel
theorem dX5_addCat_17 : decode cX5_addCat 17 = .ok (.getfield 9, 3) := by decide +kernel
theorem dX5_addCat_20 : decode cX5_addCat 20 = .ok (.iload 4, 2) := by decide +kernel
theorem dX5_addCat_22 : decode cX5_addCat 22 = .ok (.iload_n 1, 1) := by decide +kernel
theorem dX5_addCat_23 : decode cX5_addCat 23 = .ok (.iastore, 1) := by decide +kernel
theorem dX5_addCat_24 : decode cX5_addCat 24 = .ok (.aload_n 0, 1) := by decide +kernel
theorem dX5_addCat_25 : decode cX5_addCat 25 = .ok (.getfield 15, 3) := by decide +kernel
theorem dX5_addCat_28 : decode cX5_addCat 28 = .ok (.iload 4, 2) := by decide +kernel
theorem dX5_addCat_30 : decode cX5_addCat 30 = .ok (.iload_n 2, 1) := by decide +kernel
theorem dX5_addCat_31 : decode cX5_addCat 31 = .ok (.iastore, 1) := by decide +kernel
theorem dX5_addCat_32 : decode cX5_addCat 32 = .ok (.aload_n 0, 1) := by decide +kernel
theorem dX5_addCat_33 : decode cX5_addCat 33 = .ok (.getfield 18, 3) := by decide +kernel
theorem dX5_addCat_36 : decode cX5_addCat 36 = .ok (.iload 4, 2) := by decide +kernel
theorem dX5_addCat_38 : decode cX5_addCat 38 = .ok (.iload_n 3, 1) := by decide +kernel
theorem dX5_addCat_39 : decode cX5_addCat 39 = .ok (.iastore, 1) := by decide +kernel
theorem dX5_addCat_40 : decode cX5_addCat 40 = .ok (.aload_n 0, 1) := by decide +kernel
theorem dX5_addCat_41 : decode cX5_addCat 41 = .ok (.getfield 21, 3) := by decide +kernel
theorem dX5_addCat_44 : decode cX5_addCat 44 = .ok (.iload 4, 2) := by decide +kernel
theorem dX5_addCat_46 : decode cX5_addCat 46 = .ok (.iconst 0, 1) := by decide +kernel
theorem dX5_addCat_47 : decode cX5_addCat 47 = .ok (.iastore, 1) := by decide +kernel
theorem dX5_addCat_48 : decode cX5_addCat 48 = .ok (.aload_n 0, 1) := by decide +kernel
theorem dX5_addCat_49 : decode cX5_addCat 49 = .ok (.getfield 24, 3) := by decide +kernel
theorem dX5_addCat_52 : decode cX5_addCat 52 = .ok (.iload 4, 2) := by decide +kernel
theorem dX5_addCat_54 : decode cX5_addCat 54 = .ok (.iconst (-1), 1) := by decide +kernel
theorem dX5_addCat_55 : decode cX5_addCat 55 = .ok (.iastore, 1) := by decide +kernel
theorem dX5_addCat_56 : decode cX5_addCat 56 = .ok (.iload 4, 2) := by decide +kernel
theorem dX5_addCat_58 : decode cX5_addCat 58 = .ok (.ireturn, 1) := by decide +kernel
theorem dX5_addShip_0 : decode cX5_addShip 0 = .ok (.aload_n 0, 1) := by decide +kernel
theorem dX5_addShip_1 : decode cX5_addShip 1 = .ok (.getfield 53, 3) := by decide +kernel
theorem dX5_addShip_4 : decode cX5_addShip 4 = .ok (.istore_n 2, 1) := by decide +kernel
theorem dX5_addShip_5 : decode cX5_addShip 5 = .ok (.aload_n 0, 1) := by decide +kernel
theorem dX5_addShip_6 : decode cX5_addShip 6 = .ok (.dup, 1) := by decide +kernel
theorem dX5_addShip_7 : decode cX5_addShip 7 = .ok (.getfield 53, 3) := by decide +kernel
theorem dX5_addShip_10 : decode cX5_addShip 10 = .ok (.iconst 1, 1) := by decide +kernel
theorem dX5_addShip_11 : decode cX5_addShip 11 = .ok (.iadd, 1) := by decide +kernel
theorem dX5_addShip_12 : decode cX5_addShip 12 = .ok (.putfield 53, 3) := by decide +kernel
theorem dX5_addShip_15 : decode cX5_addShip 15 = .ok (.aload_n 0, 1) := by decide +kernel
theorem dX5_addShip_16 : decode cX5_addShip 16 = .ok (.getfield 27, 3) := by decide +kernel
theorem dX5_addShip_19 : decode cX5_addShip 19 = .ok (.iload_n 2, 1) := by decide +kernel
theorem dX5_addShip_20 : decode cX5_addShip 20 = .ok (.iload_n 1, 1) := by decide +kernel
theorem dX5_addShip_21 : decode cX5_addShip 21 = .ok (.iastore, 1) := by decide +kernel
theorem dX5_addShip_22 : decode cX5_addShip 22 = .ok (.iload_n 2, 1) := by decide +kernel
theorem dX5_addShip_23 : decode cX5_addShip 23 = .ok (.ireturn, 1) := by decide +kernel
theorem dX5_addLaw_0 : decode cX5_addLaw 0 = .ok (.aload_n 0, 1) := by decide +kernel
theorem dX5_addLaw_1 : decode cX5_addLaw 1 = .ok (.getfield 56, 3) := by decide +kernel
theorem dX5_addLaw_4 : decode cX5_addLaw 4 = .ok (.istore_n 2, 1) := by decide +kernel
theorem dX5_addLaw_5 : decode cX5_addLaw 5 = .ok (.aload_n 0, 1) := by decide +kernel
theorem dX5_addLaw_6 : decode cX5_addLaw 6 = .ok (.dup, 1) := by decide +kernel
theorem dX5_addLaw_7 : decode cX5_addLaw 7 = .ok (.getfield 56, 3) := by decide +kernel
theorem dX5_addLaw_10 : decode cX5_addLaw 10 = .ok (.iconst 1, 1) := by decide +kernel
theorem dX5_addLaw_11 : decode cX5_addLaw 11 = .ok (.iadd, 1) := by decide +kernel
theorem dX5_addLaw_12 : decode cX5_addLaw 12 = .ok (.putfield 56, 3) := by decide +kernel
theorem dX5_addLaw_15 : decode cX5_addLaw 15 = .ok (.aload_n 0, 1) := by decide +kernel
theorem dX5_addLaw_16 : decode cX5_addLaw 16 = .ok (.getfield 38, 3) := by decide +kernel
theorem dX5_addLaw_19 : decode cX5_addLaw 19 = .ok (.iload_n 2, 1) := by decide +kernel
theorem dX5_addLaw_20 : decode cX5_addLaw 20 = .ok (.aload_n 1, 1) := by decide +kernel
theorem dX5_addLaw_21 : decode cX5_addLaw 21 = .ok (.aastore, 1) := by decide +kernel
theorem dX5_addLaw_22 : decode cX5_addLaw 22 = .ok (.iload_n 2, 1) := by decide +kernel
theorem dX5_addLaw_23 : decode cX5_addLaw 23 = .ok (.ireturn, 1) := by decide +kernel
theorem dX5_spentBy_0 : decode cX5_spentBy 0 = .ok (.aload_n 0, 1) := by decide +kernel
theorem dX5_spentBy_1 : decode cX5_spentBy 1 = .ok (.getfield 9, 3) := by decide +kernel
theorem dX5_spentBy_4 : decode cX5_spentBy 4 = .ok (.iload_n 1, 1) := by decide +kernel
theorem dX5_spentBy_5 : decode cX5_spentBy 5 = .ok (.iaload, 1) := by decide +kernel
theorem dX5_spentBy_6 : decode cX5_spentBy 6 = .ok (.iconst (-1), 1) := by decide +kernel
theorem dX5_spentBy_7 : decode cX5_spentBy 7 = .ok (.if_icmp .ne 7, 3) := by decide +kernel
theorem dX5_spentBy_10 : decode cX5_spentBy 10 = .ok (.iconst 0, 1) := by decide +kernel
theorem dX5_spentBy_11 : decode cX5_spentBy 11 = .ok (.goto 4, 3) := by decide +kernel
theorem dX5_spentBy_14 : decode cX5_spentBy 14 = .ok (.iconst 1, 1) := by decide +kernel
theorem dX5_spentBy_15 : decode cX5_spentBy 15 = .ok (.istore_n 2, 1) := by decide +kernel
theorem dX5_spentBy_16 : decode cX5_spentBy 16 = .ok (.bipush 9, 2) := by decide +kernel
theorem dX5_spentBy_18 : decode cX5_spentBy 18 = .ok (.aload_n 0, 1) := by decide +kernel
theorem dX5_spentBy_19 : decode cX5_spentBy 19 = .ok (.getfield 15, 3) := by decide +kernel
theorem dX5_spentBy_22 : decode cX5_spentBy 22 = .ok (.iload_n 1, 1) := by decide +kernel
theorem dX5_spentBy_23 : decode cX5_spentBy 23 = .ok (.iaload, 1) := by decide +kernel
theorem dX5_spentBy_24 : decode cX5_spentBy 24 = .ok (.invokestatic 59, 3) := by decide +kernel
theorem dX5_spentBy_27 : decode cX5_spentBy 27 = .ok (.isub, 1) := by decide +kernel
theorem dX5_spentBy_28 : decode cX5_spentBy 28 = .ok (.iload_n 2, 1) := by decide +kernel
theorem dX5_spentBy_29 : decode cX5_spentBy 29 = .ok (.isub, 1) := by decide +kernel
theorem dX5_spentBy_30 : decode cX5_spentBy 30 = .ok (.ireturn, 1) := by decide +kernel
theorem dX5_howManyAlive_0 : decode cX5_howManyAlive 0 = .ok (.iconst 0, 1) := by decide +kernel
theorem dX5_howManyAlive_1 : decode cX5_howManyAlive 1 = .ok (.istore_n 1, 1) := by decide +kernel
theorem dX5_howManyAlive_2 : decode cX5_howManyAlive 2 = .ok (.iconst 0, 1) := by decide +kernel
theorem dX5_howManyAlive_3 : decode cX5_howManyAlive 3 = .ok (.istore_n 2, 1) := by decide +kernel
theorem dX5_howManyAlive_4 : decode cX5_howManyAlive 4 = .ok (.iload_n 2, 1) := by decide +kernel
theorem dX5_howManyAlive_5 : decode cX5_howManyAlive 5 = .ok (.aload_n 0, 1) := by decide +kernel
theorem dX5_howManyAlive_6 : decode cX5_howManyAlive 6 = .ok (.getfield 46, 3) := by decide +kernel
theorem dX5_howManyAlive_9 : decode cX5_howManyAlive 9 = .ok (.if_icmp .ge 22, 3) := by decide +kernel
theorem dX5_howManyAlive_12 : decode cX5_howManyAlive 12 = .ok (.aload_n 0, 1) := by decide +kernel
theorem dX5_howManyAlive_13 : decode cX5_howManyAlive 13 = .ok (.getfield 9, 3) := by decide +kernel
theorem dX5_howManyAlive_16 : decode cX5_howManyAlive 16 = .ok (.iload_n 2, 1) := by decide +kernel
theorem dX5_howManyAlive_17 : decode cX5_howManyAlive 17 = .ok (.iaload, 1) := by decide +kernel
theorem dX5_howManyAlive_18 : decode cX5_howManyAlive 18 = .ok (.iconst (-1), 1) := by decide +kernel
theorem dX5_howManyAlive_19 : decode cX5_howManyAlive 19 = .ok (.if_icmp .eq 6, 3) := by decide +kernel
theorem dX5_howManyAlive_22 : decode cX5_howManyAlive 22 = .ok (.iinc 1 1, 3) := by decide +kernel
theorem dX5_howManyAlive_25 : decode cX5_howManyAlive 25 = .ok (.iinc 2 1, 3) := by decide +kernel
theorem dX5_howManyAlive_28 : decode cX5_howManyAlive 28 = .ok (.goto (-24), 3) := by decide +kernel
theorem dX5_howManyAlive_31 : decode cX5_howManyAlive 31 = .ok (.iload_n 1, 1) := by decide +kernel
theorem dX5_howManyAlive_32 : decode cX5_howManyAlive 32 = .ok (.ireturn, 1) := by decide +kernel
theorem dX5_allGold_0 : decode cX5_allGold 0 = .ok (.iconst 0, 1) := by decide +kernel
theorem dX5_allGold_1 : decode cX5_allGold 1 = .ok (.istore_n 1, 1) := by decide +kernel
theorem dX5_allGold_2 : decode cX5_allGold 2 = .ok (.iconst 0, 1) := by decide +kernel
theorem dX5_allGold_3 : decode cX5_allGold 3 = .ok (.istore_n 2, 1) := by decide +kernel
theorem dX5_allGold_4 : decode cX5_allGold 4 = .ok (.iload_n 2, 1) := by decide +kernel
theorem dX5_allGold_5 : decode cX5_allGold 5 = .ok (.aload_n 0, 1) := by decide +kernel
theorem dX5_allGold_6 : decode cX5_allGold 6 = .ok (.getfield 46, 3) := by decide +kernel
theorem dX5_allGold_9 : decode cX5_allGold 9 = .ok (.if_icmp .ge 18, 3) := by decide +kernel
theorem dX5_allGold_12 : decode cX5_allGold 12 = .ok (.iload_n 1, 1) := by decide +kernel
theorem dX5_allGold_13 : decode cX5_allGold 13 = .ok (.aload_n 0, 1) := by decide +kernel
theorem dX5_allGold_14 : decode cX5_allGold 14 = .ok (.getfield 21, 3) := by decide +kernel
theorem dX5_allGold_17 : decode cX5_allGold 17 = .ok (.iload_n 2, 1) := by decide +kernel
theorem dX5_allGold_18 : decode cX5_allGold 18 = .ok (.iaload, 1) := by decide +kernel
theorem dX5_allGold_19 : decode cX5_allGold 19 = .ok (.iadd, 1) := by decide +kernel
theorem dX5_allGold_20 : decode cX5_allGold 20 = .ok (.istore_n 1, 1) := by decide +kernel
theorem dX5_allGold_21 : decode cX5_allGold 21 = .ok (.iinc 2 1, 3) := by decide +kernel
theorem dX5_allGold_24 : decode cX5_allGold 24 = .ok (.goto (-20), 3) := by decide +kernel
theorem dX5_allGold_27 : decode cX5_allGold 27 = .ok (.iload_n 1, 1) := by decide +kernel
theorem dX5_allGold_28 : decode cX5_allGold 28 = .ok (.ireturn, 1) := by decide +kernel
theorem dX5_crewOf_0 : decode cX5_crewOf 0 = .ok (.iconst 0, 1) := by decide +kernel
theorem dX5_crewOf_1 : decode cX5_crewOf 1 = .ok (.istore_n 2, 1) := by decide +kernel
theorem dX5_crewOf_2 : decode cX5_crewOf 2 = .ok (.iconst 0, 1) := by decide +kernel
theorem dX5_crewOf_3 : decode cX5_crewOf 3 = .ok (.istore_n 3, 1) := by decide +kernel
theorem dX5_crewOf_4 : decode cX5_crewOf 4 = .ok (.iload_n 3, 1) := by decide +kernel
theorem dX5_crewOf_5 : decode cX5_crewOf 5 = .ok (.aload_n 0, 1) := by decide +kernel
theorem dX5_crewOf_6 : decode cX5_crewOf 6 = .ok (.getfield 46, 3) := by decide +kernel
theorem dX5_crewOf_9 : decode cX5_crewOf 9 = .ok (.if_icmp .ge 25, 3) := by decide +kernel
theorem dX5_crewOf_12 : decode cX5_crewOf 12 = .ok (.aload_n 0, 1) := by decide +kernel
theorem dX5_crewOf_13 : decode cX5_crewOf 13 = .ok (.getfield 24, 3) := by decide +kernel
theorem dX5_crewOf_16 : decode cX5_crewOf 16 = .ok (.iload_n 3, 1) := by decide +kernel
theorem dX5_crewOf_17 : decode cX5_crewOf 17 = .ok (.iaload, 1) := by decide +kernel
theorem dX5_crewOf_18 : decode cX5_crewOf 18 = .ok (.iload_n 1, 1) := by decide +kernel
theorem dX5_crewOf_19 : decode cX5_crewOf 19 = .ok (.if_icmp .ne 9, 3) := by decide +kernel
theorem dX5_crewOf_22 : decode cX5_crewOf 22 = .ok (.iload_n 2, 1) := by decide +kernel
theorem dX5_crewOf_23 : decode cX5_crewOf 23 = .ok (.iconst 1, 1) := by decide +kernel
theorem dX5_crewOf_24 : decode cX5_crewOf 24 = .ok (.iload_n 3, 1) := by decide +kernel
theorem dX5_crewOf_25 : decode cX5_crewOf 25 = .ok (.ishl, 1) := by decide +kernel
theorem dX5_crewOf_26 : decode cX5_crewOf 26 = .ok (.ior, 1) := by decide +kernel
theorem dX5_crewOf_27 : decode cX5_crewOf 27 = .ok (.istore_n 2, 1) := by decide +kernel
theorem dX5_crewOf_28 : decode cX5_crewOf 28 = .ok (.iinc 3 1, 3) := by decide +kernel
theorem dX5_crewOf_31 : decode cX5_crewOf 31 = .ok (.goto (-27), 3) := by decide +kernel
theorem dX5_crewOf_34 : decode cX5_crewOf 34 = .ok (.iload_n 2, 1) := by decide +kernel
theorem dX5_crewOf_35 : decode cX5_crewOf 35 = .ok (.ireturn, 1) := by decide +kernel
theorem dX5_withoutShip_0 : decode cX5_withoutShip 0 = .ok (.iconst 0, 1) := by decide +kernel
theorem dX5_withoutShip_1 : decode cX5_withoutShip 1 = .ok (.istore_n 1, 1) := by decide +kernel
theorem dX5_withoutShip_2 : decode cX5_withoutShip 2 = .ok (.iconst 0, 1) := by decide +kernel
theorem dX5_withoutShip_3 : decode cX5_withoutShip 3 = .ok (.istore_n 2, 1) := by decide +kernel
theorem dX5_withoutShip_4 : decode cX5_withoutShip 4 = .ok (.iload_n 2, 1) := by decide +kernel
theorem dX5_withoutShip_5 : decode cX5_withoutShip 5 = .ok (.aload_n 0, 1) := by decide +kernel
theorem dX5_withoutShip_6 : decode cX5_withoutShip 6 = .ok (.getfield 46, 3) := by decide +kernel
theorem dX5_withoutShip_9 : decode cX5_withoutShip 9 = .ok (.if_icmp .ge 35, 3) := by decide +kernel
theorem dX5_withoutShip_12 : decode cX5_withoutShip 12 = .ok (.aload_n 0, 1) := by decide +kernel
theorem dX5_withoutShip_13 : decode cX5_withoutShip 13 = .ok (.getfield 9, 3) := by decide +kernel
theorem dX5_withoutShip_16 : decode cX5_withoutShip 16 = .ok (.iload_n 2, 1) := by decide +kernel
theorem dX5_withoutShip_17 : decode cX5_withoutShip 17 = .ok (.iaload, 1) := by decide +kernel
theorem dX5_withoutShip_18 : decode cX5_withoutShip 18 = .ok (.iconst (-1), 1) := by decide +kernel
theorem dX5_withoutShip_19 : decode cX5_withoutShip 19 = .ok (.if_icmp .eq 19, 3) := by decide +kernel
theorem dX5_withoutShip_22 : decode cX5_withoutShip 22 = .ok (.aload_n 0, 1) := by decide +kernel
theorem dX5_withoutShip_23 : decode cX5_withoutShip 23 = .ok (.getfield 24, 3) := by decide +kernel
theorem dX5_withoutShip_26 : decode cX5_withoutShip 26 = .ok (.iload_n 2, 1) := by decide +kernel
theorem dX5_withoutShip_27 : decode cX5_withoutShip 27 = .ok (.iaload, 1) := by decide +kernel
theorem dX5_withoutShip_28 : decode cX5_withoutShip 28 = .ok (.iconst (-1), 1) := by decide +kernel
theorem dX5_withoutShip_29 : decode cX5_withoutShip 29 = .ok (.if_icmp .ne 9, 3) := by decide +kernel
theorem dX5_withoutShip_32 : decode cX5_withoutShip 32 = .ok (.iload_n 1, 1) := by decide +kernel
theorem dX5_withoutShip_33 : decode cX5_withoutShip 33 = .ok (.iconst 1, 1) := by decide +kernel
theorem dX5_withoutShip_34 : decode cX5_withoutShip 34 = .ok (.iload_n 2, 1) := by decide +kernel
theorem dX5_withoutShip_35 : decode cX5_withoutShip 35 = .ok (.ishl, 1) := by decide +kernel
theorem dX5_withoutShip_36 : decode cX5_withoutShip 36 = .ok (.ior, 1) := by decide +kernel
theorem dX5_withoutShip_37 : decode cX5_withoutShip 37 = .ok (.istore_n 1, 1) := by decide +kernel
theorem dX5_withoutShip_38 : decode cX5_withoutShip 38 = .ok (.iinc 2 1, 3) := by decide +kernel
theorem dX5_withoutShip_41 : decode cX5_withoutShip 41 = .ok (.goto (-37), 3) := by decide +kernel
theorem dX5_withoutShip_44 : decode cX5_withoutShip 44 = .ok (.iload_n 1, 1) := by decide +kernel
theorem dX5_withoutShip_45 : decode cX5_withoutShip 45 = .ok (.ireturn, 1) := by decide +kernel
theorem dX5_livesOf_0 : decode cX5_livesOf 0 = .ok (.iconst 0, 1) := by decide +kernel
theorem dX5_livesOf_1 : decode cX5_livesOf 1 = .ok (.istore_n 2, 1) := by decide +kernel
theorem dX5_livesOf_2 : decode cX5_livesOf 2 = .ok (.iconst 0, 1) := by decide +kernel
theorem dX5_livesOf_3 : decode cX5_livesOf 3 = .ok (.istore_n 3, 1) := by decide +kernel
theorem dX5_livesOf_4 : decode cX5_livesOf 4 = .ok (.iload_n 3, 1) := by decide +kernel
theorem dX5_livesOf_5 : decode cX5_livesOf 5 = .ok (.aload_n 0, 1) := by decide +kernel
theorem dX5_livesOf_6 : decode cX5_livesOf 6 = .ok (.getfield 46, 3) := by decide +kernel
theorem dX5_livesOf_9 : decode cX5_livesOf 9 = .ok (.if_icmp .ge 38, 3) := by decide +kernel
theorem dX5_livesOf_12 : decode cX5_livesOf 12 = .ok (.iload_n 1, 1) := by decide +kernel
theorem dX5_livesOf_13 : decode cX5_livesOf 13 = .ok (.iload_n 3, 1) := by decide +kernel
theorem dX5_livesOf_14 : decode cX5_livesOf 14 = .ok (.invokestatic 65, 3) := by decide +kernel
theorem dX5_livesOf_17 : decode cX5_livesOf 17 = .ok (.ifCond .eq 24, 3) := by decide +kernel
theorem dX5_livesOf_20 : decode cX5_livesOf 20 = .ok (.aload_n 0, 1) := by decide +kernel
theorem dX5_livesOf_21 : decode cX5_livesOf 21 = .ok (.getfield 9, 3) := by decide +kernel
theorem dX5_livesOf_24 : decode cX5_livesOf 24 = .ok (.iload_n 3, 1) := by decide +kernel
theorem dX5_livesOf_25 : decode cX5_livesOf 25 = .ok (.iaload, 1) := by decide +kernel
theorem dX5_livesOf_26 : decode cX5_livesOf 26 = .ok (.iconst (-1), 1) := by decide +kernel
theorem dX5_livesOf_27 : decode cX5_livesOf 27 = .ok (.if_icmp .eq 14, 3) := by decide +kernel
theorem dX5_livesOf_30 : decode cX5_livesOf 30 = .ok (.iload_n 2, 1) := by decide +kernel
theorem dX5_livesOf_31 : decode cX5_livesOf 31 = .ok (.iconst 1, 1) := by decide +kernel
theorem dX5_livesOf_32 : decode cX5_livesOf 32 = .ok (.aload_n 0, 1) := by decide +kernel
theorem dX5_livesOf_33 : decode cX5_livesOf 33 = .ok (.getfield 9, 3) := by decide +kernel
theorem dX5_livesOf_36 : decode cX5_livesOf 36 = .ok (.iload_n 3, 1) := by decide +kernel
theorem dX5_livesOf_37 : decode cX5_livesOf 37 = .ok (.iaload, 1) := by decide +kernel
theorem dX5_livesOf_38 : decode cX5_livesOf 38 = .ok (.ishl, 1) := by decide +kernel
theorem dX5_livesOf_39 : decode cX5_livesOf 39 = .ok (.ior, 1) := by decide +kernel
theorem dX5_livesOf_40 : decode cX5_livesOf 40 = .ok (.istore_n 2, 1) := by decide +kernel
theorem dX5_livesOf_41 : decode cX5_livesOf 41 = .ok (.iinc 3 1, 3) := by decide +kernel
theorem dX5_livesOf_44 : decode cX5_livesOf 44 = .ok (.goto (-40), 3) := by decide +kernel
theorem dX5_livesOf_47 : decode cX5_livesOf 47 = .ok (.iload_n 2, 1) := by decide +kernel
theorem dX5_livesOf_48 : decode cX5_livesOf 48 = .ok (.ireturn, 1) := by decide +kernel
theorem dX5_missingOn_0 : decode cX5_missingOn 0 = .ok (.aload_n 0, 1) := by decide +kernel
theorem dX5_missingOn_1 : decode cX5_missingOn 1 = .ok (.getfield 27, 3) := by decide +kernel
theorem dX5_missingOn_4 : decode cX5_missingOn 4 = .ok (.iload_n 1, 1) := by decide +kernel
theorem dX5_missingOn_5 : decode cX5_missingOn 5 = .ok (.iaload, 1) := by decide +kernel
theorem dX5_missingOn_6 : decode cX5_missingOn 6 = .ok (.aload_n 0, 1) := by decide +kernel
theorem dX5_missingOn_7 : decode cX5_missingOn 7 = .ok (.aload_n 0, 1) := by decide +kernel
theorem dX5_missingOn_8 : decode cX5_missingOn 8 = .ok (.iload_n 1, 1) := by decide +kernel
theorem dX5_missingOn_9 : decode cX5_missingOn 9 = .ok (.invokevirtual 69, 3) := by decide +kernel
theorem dX5_missingOn_12 : decode cX5_missingOn 12 = .ok (.invokevirtual 72, 3) := by decide +kernel
theorem dX5_missingOn_15 : decode cX5_missingOn 15 = .ok (.iconst (-1), 1) := by decide +kernel
theorem dX5_missingOn_16 : decode cX5_missingOn 16 = .ok (.ixor, 1) := by decide +kernel
theorem dX5_missingOn_17 : decode cX5_missingOn 17 = .ok (.iand, 1) := by decide +kernel
theorem dX5_missingOn_18 : decode cX5_missingOn 18 = .ok (.ireturn, 1) := by decide +kernel
theorem dX5_endLife_0 : decode cX5_endLife 0 = .ok (.aload_n 0, 1) := by decide +kernel
theorem dX5_endLife_1 : decode cX5_endLife 1 = .ok (.getfield 15, 3) := by decide +kernel
theorem dX5_endLife_4 : decode cX5_endLife 4 = .ok (.iload_n 1, 1) := by decide +kernel
theorem dX5_endLife_5 : decode cX5_endLife 5 = .ok (.iaload, 1) := by decide +kernel
theorem dX5_endLife_6 : decode cX5_endLife 6 = .ok (.ifCond .ne 20, 3) := by decide +kernel
theorem dX5_endLife_9 : decode cX5_endLife 9 = .ok (.aload_n 0, 1) := by decide +kernel
theorem dX5_endLife_10 : decode cX5_endLife 10 = .ok (.getfield 9, 3) := by decide +kernel
theorem dX5_endLife_13 : decode cX5_endLife 13 = .ok (.iload_n 1, 1) := by decide +kernel
theorem dX5_endLife_14 : decode cX5_endLife 14 = .ok (.iconst (-1), 1) := by decide +kernel
theorem dX5_endLife_15 : decode cX5_endLife 15 = .ok (.iastore, 1) := by decide +kernel
theorem dX5_endLife_16 : decode cX5_endLife 16 = .ok (.aload_n 0, 1) := by decide +kernel
theorem dX5_endLife_17 : decode cX5_endLife 17 = .ok (.getfield 24, 3) := by decide +kernel
theorem dX5_endLife_20 : decode cX5_endLife 20 = .ok (.iload_n 1, 1) := by decide +kernel
theorem dX5_endLife_21 : decode cX5_endLife 21 = .ok (.iconst (-1), 1) := by decide +kernel
theorem dX5_endLife_22 : decode cX5_endLife 22 = .ok (.iastore, 1) := by decide +kernel
theorem dX5_endLife_23 : decode cX5_endLife 23 = .ok (.goto 24, 3) := by decide +kernel
theorem dX5_endLife_26 : decode cX5_endLife 26 = .ok (.aload_n 0, 1) := by decide +kernel
theorem dX5_endLife_27 : decode cX5_endLife 27 = .ok (.getfield 9, 3) := by decide +kernel
theorem dX5_endLife_30 : decode cX5_endLife 30 = .ok (.iload_n 1, 1) := by decide +kernel
theorem dX5_endLife_31 : decode cX5_endLife 31 = .ok (.iload_n 2, 1) := by decide +kernel
theorem dX5_endLife_32 : decode cX5_endLife 32 = .ok (.iastore, 1) := by decide +kernel
theorem dX5_endLife_33 : decode cX5_endLife 33 = .ok (.aload_n 0, 1) := by decide +kernel
theorem dX5_endLife_34 : decode cX5_endLife 34 = .ok (.getfield 15, 3) := by decide +kernel
theorem dX5_endLife_37 : decode cX5_endLife 37 = .ok (.iload_n 1, 1) := by decide +kernel
theorem dX5_endLife_38 : decode cX5_endLife 38 = .ok (.dup2, 1) := by decide +kernel
theorem dX5_endLife_39 : decode cX5_endLife 39 = .ok (.iaload, 1) := by decide +kernel
theorem dX5_endLife_40 : decode cX5_endLife 40 = .ok (.iconst 1, 1) := by decide +kernel
theorem dX5_endLife_41 : decode cX5_endLife 41 = .ok (.iload_n 2, 1) := by decide +kernel
theorem dX5_endLife_42 : decode cX5_endLife 42 = .ok (.ishl, 1) := by decide +kernel
theorem dX5_endLife_43 : decode cX5_endLife 43 = .ok (.iconst (-1), 1) := by decide +kernel
theorem dX5_endLife_44 : decode cX5_endLife 44 = .ok (.ixor, 1) := by decide +kernel
theorem dX5_endLife_45 : decode cX5_endLife 45 = .ok (.iand, 1) := by decide +kernel
theorem dX5_endLife_46 : decode cX5_endLife 46 = .ok (.iastore, 1) := by decide +kernel
theorem dX5_endLife_47 : decode cX5_endLife 47 = .ok (.return_, 1) := by decide +kernel
theorem dX5_passYear_0 : decode cX5_passYear 0 = .ok (.iconst 0, 1) := by decide +kernel
theorem dX5_passYear_1 : decode cX5_passYear 1 = .ok (.istore_n 2, 1) := by decide +kernel
theorem dX5_passYear_2 : decode cX5_passYear 2 = .ok (.iload_n 2, 1) := by decide +kernel
theorem dX5_passYear_3 : decode cX5_passYear 3 = .ok (.aload_n 0, 1) := by decide +kernel
theorem dX5_passYear_4 : decode cX5_passYear 4 = .ok (.getfield 46, 3) := by decide +kernel
theorem dX5_passYear_7 : decode cX5_passYear 7 = .ok (.if_icmp .ge 51, 3) := by decide +kernel
theorem dX5_passYear_10 : decode cX5_passYear 10 = .ok (.aload_n 0, 1) := by decide +kernel
theorem dX5_passYear_11 : decode cX5_passYear 11 = .ok (.getfield 9, 3) := by decide +kernel
theorem dX5_passYear_14 : decode cX5_passYear 14 = .ok (.iload_n 2, 1) := by decide +kernel
theorem dX5_passYear_15 : decode cX5_passYear 15 = .ok (.iaload, 1) := by decide +kernel
theorem dX5_passYear_16 : decode cX5_passYear 16 = .ok (.iconst (-1), 1) := by decide +kernel
theorem dX5_passYear_17 : decode cX5_passYear 17 = .ok (.if_icmp .eq 35, 3) := by decide +kernel
theorem dX5_passYear_20 : decode cX5_passYear 20 = .ok (.aload_n 1, 1) := by decide +kernel
theorem dX5_passYear_21 : decode cX5_passYear 21 = .ok (.aload_n 0, 1) := by decide +kernel
theorem dX5_passYear_22 : decode cX5_passYear 22 = .ok (.iload_n 2, 1) := by decide +kernel
theorem dX5_passYear_23 : decode cX5_passYear 23 = .ok (.invokevirtual 75, 3) := by decide +kernel
theorem dX5_passYear_26 : decode cX5_passYear 26 = .ok (.aload_n 0, 1) := by decide +kernel
theorem dX5_passYear_27 : decode cX5_passYear 27 = .ok (.getfield 21, 3) := by decide +kernel
theorem dX5_passYear_30 : decode cX5_passYear 30 = .ok (.iload_n 2, 1) := by decide +kernel
theorem dX5_passYear_31 : decode cX5_passYear 31 = .ok (.sipush 9999, 3) := by decide +kernel
theorem dX5_passYear_34 : decode cX5_passYear 34 = .ok (.aload_n 0, 1) := by decide +kernel
theorem dX5_passYear_35 : decode cX5_passYear 35 = .ok (.getfield 21, 3) := by decide +kernel
theorem dX5_passYear_38 : decode cX5_passYear 38 = .ok (.iload_n 2, 1) := by decide +kernel
theorem dX5_passYear_39 : decode cX5_passYear 39 = .ok (.iaload, 1) := by decide +kernel
theorem dX5_passYear_40 : decode cX5_passYear 40 = .ok (.aload_n 1, 1) := by decide +kernel
theorem dX5_passYear_41 : decode cX5_passYear 41 = .ok (.sipush 263, 3) := by decide +kernel
theorem dX5_passYear_44 : decode cX5_passYear 44 = .ok (.invokevirtual 81, 3) := by decide +kernel
theorem dX5_passYear_47 : decode cX5_passYear 47 = .ok (.iadd, 1) := by decide +kernel
theorem dX5_passYear_48 : decode cX5_passYear 48 = .ok (.invokestatic 84, 3) := by decide +kernel
theorem dX5_passYear_51 : decode cX5_passYear 51 = .ok (.iastore, 1) := by decide +kernel
theorem dX5_passYear_52 : decode cX5_passYear 52 = .ok (.iinc 2 1, 3) := by decide +kernel
theorem dX5_passYear_55 : decode cX5_passYear 55 = .ok (.goto (-53), 3) := by decide +kernel
theorem dX5_passYear_58 : decode cX5_passYear 58 = .ok (.aload_n 0, 1) := by decide +kernel
theorem dX5_passYear_59 : decode cX5_passYear 59 = .ok (.getfield 33, 3) := by decide +kernel
theorem dX5_passYear_62 : decode cX5_passYear 62 = .ok (.iconst 0, 1) := by decide +kernel
theorem dX5_passYear_63 : decode cX5_passYear 63 = .ok (.dup2, 1) := by decide +kernel
theorem dX5_passYear_64 : decode cX5_passYear 64 = .ok (.iaload, 1) := by decide +kernel
theorem dX5_passYear_65 : decode cX5_passYear 65 = .ok (.iconst 1, 1) := by decide +kernel
theorem dX5_passYear_66 : decode cX5_passYear 66 = .ok (.iadd, 1) := by decide +kernel
theorem dX5_passYear_67 : decode cX5_passYear 67 = .ok (.iastore, 1) := by decide +kernel
theorem dX5_passYear_68 : decode cX5_passYear 68 = .ok (.return_, 1) := by decide +kernel
theorem dX5_copyFrom_0 : decode cX5_copyFrom 0 = .ok (.aload_n 0, 1) := by decide +kernel
theorem dX5_copyFrom_1 : decode cX5_copyFrom 1 = .ok (.aload_n 1, 1) := by decide +kernel
theorem dX5_copyFrom_2 : decode cX5_copyFrom 2 = .ok (.getfield 46, 3) := by decide +kernel
theorem dX5_copyFrom_5 : decode cX5_copyFrom 5 = .ok (.putfield 46, 3) := by decide +kernel
theorem dX5_copyFrom_8 : decode cX5_copyFrom 8 = .ok (.aload_n 1, 1) := by decide +kernel
theorem dX5_copyFrom_9 : decode cX5_copyFrom 9 = .ok (.getfield 9, 3) := by decide +kernel
theorem dX5_copyFrom_12 : decode cX5_copyFrom 12 = .ok (.iconst 0, 1) := by decide +kernel
theorem dX5_copyFrom_13 : decode cX5_copyFrom 13 = .ok (.aload_n 0, 1) := by decide +kernel
theorem dX5_copyFrom_14 : decode cX5_copyFrom 14 = .ok (.getfield 9, 3) := by decide +kernel
theorem dX5_copyFrom_17 : decode cX5_copyFrom 17 = .ok (.iconst 0, 1) := by decide +kernel
theorem dX5_copyFrom_18 : decode cX5_copyFrom 18 = .ok (.bipush 6, 2) := by decide +kernel
theorem dX5_copyFrom_20 : decode cX5_copyFrom 20 = .ok (.invokestatic 90, 3) := by decide +kernel
theorem dX5_copyFrom_23 : decode cX5_copyFrom 23 = .ok (.aload_n 1, 1) := by decide +kernel
theorem dX5_copyFrom_24 : decode cX5_copyFrom 24 = .ok (.getfield 15, 3) := by decide +kernel
theorem dX5_copyFrom_27 : decode cX5_copyFrom 27 = .ok (.iconst 0, 1) := by decide +kernel
theorem dX5_copyFrom_28 : decode cX5_copyFrom 28 = .ok (.aload_n 0, 1) := by decide +kernel
theorem dX5_copyFrom_29 : decode cX5_copyFrom 29 = .ok (.getfield 15, 3) := by decide +kernel
theorem dX5_copyFrom_32 : decode cX5_copyFrom 32 = .ok (.iconst 0, 1) := by decide +kernel
theorem dX5_copyFrom_33 : decode cX5_copyFrom 33 = .ok (.bipush 6, 2) := by decide +kernel
theorem dX5_copyFrom_35 : decode cX5_copyFrom 35 = .ok (.invokestatic 90, 3) := by decide +kernel
theorem dX5_copyFrom_38 : decode cX5_copyFrom 38 = .ok (.aload_n 1, 1) := by decide +kernel
theorem dX5_copyFrom_39 : decode cX5_copyFrom 39 = .ok (.getfield 18, 3) := by decide +kernel
theorem dX5_copyFrom_42 : decode cX5_copyFrom 42 = .ok (.iconst 0, 1) := by decide +kernel
theorem dX5_copyFrom_43 : decode cX5_copyFrom 43 = .ok (.aload_n 0, 1) := by decide +kernel
theorem dX5_copyFrom_44 : decode cX5_copyFrom 44 = .ok (.getfield 18, 3) := by decide +kernel
theorem dX5_copyFrom_47 : decode cX5_copyFrom 47 = .ok (.iconst 0, 1) := by decide +kernel
theorem dX5_copyFrom_48 : decode cX5_copyFrom 48 = .ok (.bipush 6, 2) := by decide +kernel
theorem dX5_copyFrom_50 : decode cX5_copyFrom 50 = .ok (.invokestatic 90, 3) := by decide +kernel
theorem dX5_copyFrom_53 : decode cX5_copyFrom 53 = .ok (.aload_n 1, 1) := by decide +kernel
theorem dX5_copyFrom_54 : decode cX5_copyFrom 54 = .ok (.getfield 21, 3) := by decide +kernel
theorem dX5_copyFrom_57 : decode cX5_copyFrom 57 = .ok (.iconst 0, 1) := by decide +kernel
theorem dX5_copyFrom_58 : decode cX5_copyFrom 58 = .ok (.aload_n 0, 1) := by decide +kernel
theorem dX5_copyFrom_59 : decode cX5_copyFrom 59 = .ok (.getfield 21, 3) := by decide +kernel
theorem dX5_copyFrom_62 : decode cX5_copyFrom 62 = .ok (.iconst 0, 1) := by decide +kernel
theorem dX5_copyFrom_63 : decode cX5_copyFrom 63 = .ok (.bipush 6, 2) := by decide +kernel
theorem dX5_copyFrom_65 : decode cX5_copyFrom 65 = .ok (.invokestatic 90, 3) := by decide +kernel
theorem dX5_copyFrom_68 : decode cX5_copyFrom 68 = .ok (.aload_n 1, 1) := by decide +kernel
theorem dX5_copyFrom_69 : decode cX5_copyFrom 69 = .ok (.getfield 24, 3) := by decide +kernel
theorem dX5_copyFrom_72 : decode cX5_copyFrom 72 = .ok (.iconst 0, 1) := by decide +kernel
theorem dX5_copyFrom_73 : decode cX5_copyFrom 73 = .ok (.aload_n 0, 1) := by decide +kernel
theorem dX5_copyFrom_74 : decode cX5_copyFrom 74 = .ok (.getfield 24, 3) := by decide +kernel
theorem dX5_copyFrom_77 : decode cX5_copyFrom 77 = .ok (.iconst 0, 1) := by decide +kernel
theorem dX5_copyFrom_78 : decode cX5_copyFrom 78 = .ok (.bipush 6, 2) := by decide +kernel
theorem dX5_copyFrom_80 : decode cX5_copyFrom 80 = .ok (.invokestatic 90, 3) := by decide +kernel
theorem dX5_copyFrom_83 : decode cX5_copyFrom 83 = .ok (.aload_n 0, 1) := by decide +kernel
theorem dX5_copyFrom_84 : decode cX5_copyFrom 84 = .ok (.aload_n 1, 1) := by decide +kernel
theorem dX5_copyFrom_85 : decode cX5_copyFrom 85 = .ok (.getfield 53, 3) := by decide +kernel
theorem dX5_copyFrom_88 : decode cX5_copyFrom 88 = .ok (.putfield 53, 3) := by decide +kernel
theorem dX5_copyFrom_91 : decode cX5_copyFrom 91 = .ok (.aload_n 1, 1) := by decide +kernel
theorem dX5_copyFrom_92 : decode cX5_copyFrom 92 = .ok (.getfield 27, 3) := by decide +kernel
theorem dX5_copyFrom_95 : decode cX5_copyFrom 95 = .ok (.iconst 0, 1) := by decide +kernel
theorem dX5_copyFrom_96 : decode cX5_copyFrom 96 = .ok (.aload_n 0, 1) := by decide +kernel
theorem dX5_copyFrom_97 : decode cX5_copyFrom 97 = .ok (.getfield 27, 3) := by decide +kernel
theorem dX5_copyFrom_100 : decode cX5_copyFrom 100 = .ok (.iconst 0, 1) := by decide +kernel
theorem dX5_copyFrom_101 : decode cX5_copyFrom 101 = .ok (.iconst 3, 1) := by decide +kernel
theorem dX5_copyFrom_102 : decode cX5_copyFrom 102 = .ok (.invokestatic 90, 3) := by decide +kernel
theorem dX5_copyFrom_105 : decode cX5_copyFrom 105 = .ok (.aload_n 0, 1) := by decide +kernel
theorem dX5_copyFrom_106 : decode cX5_copyFrom 106 = .ok (.aload_n 1, 1) := by decide +kernel
theorem dX5_copyFrom_107 : decode cX5_copyFrom 107 = .ok (.getfield 96, 3) := by decide +kernel
theorem dX5_copyFrom_110 : decode cX5_copyFrom 110 = .ok (.putfield 96, 3) := by decide +kernel
theorem dX5_copyFrom_113 : decode cX5_copyFrom 113 = .ok (.aload_n 1, 1) := by decide +kernel
theorem dX5_copyFrom_114 : decode cX5_copyFrom 114 = .ok (.getfield 30, 3) := by decide +kernel
theorem dX5_copyFrom_117 : decode cX5_copyFrom 117 = .ok (.iconst 0, 1) := by decide +kernel
theorem dX5_copyFrom_118 : decode cX5_copyFrom 118 = .ok (.aload_n 0, 1) := by decide +kernel
theorem dX5_copyFrom_119 : decode cX5_copyFrom 119 = .ok (.getfield 30, 3) := by decide +kernel
theorem dX5_copyFrom_122 : decode cX5_copyFrom 122 = .ok (.iconst 0, 1) := by decide +kernel
theorem dX5_copyFrom_123 : decode cX5_copyFrom 123 = .ok (.bipush 8, 2) := by decide +kernel
theorem dX5_copyFrom_125 : decode cX5_copyFrom 125 = .ok (.invokestatic 90, 3) := by decide +kernel
theorem dX5_copyFrom_128 : decode cX5_copyFrom 128 = .ok (.aload_n 1, 1) := by decide +kernel
theorem dX5_copyFrom_129 : decode cX5_copyFrom 129 = .ok (.getfield 33, 3) := by decide +kernel
theorem dX5_copyFrom_132 : decode cX5_copyFrom 132 = .ok (.iconst 0, 1) := by decide +kernel
theorem dX5_copyFrom_133 : decode cX5_copyFrom 133 = .ok (.aload_n 0, 1) := by decide +kernel
theorem dX5_copyFrom_134 : decode cX5_copyFrom 134 = .ok (.getfield 33, 3) := by decide +kernel
theorem dX5_copyFrom_137 : decode cX5_copyFrom 137 = .ok (.iconst 0, 1) := by decide +kernel
theorem dX5_copyFrom_138 : decode cX5_copyFrom 138 = .ok (.iconst 3, 1) := by decide +kernel
theorem dX5_copyFrom_139 : decode cX5_copyFrom 139 = .ok (.invokestatic 90, 3) := by decide +kernel
theorem dX5_copyFrom_142 : decode cX5_copyFrom 142 = .ok (.aload_n 0, 1) := by decide +kernel
theorem dX5_copyFrom_143 : decode cX5_copyFrom 143 = .ok (.aload_n 1, 1) := by decide +kernel
theorem dX5_copyFrom_144 : decode cX5_copyFrom 144 = .ok (.getfield 56, 3) := by decide +kernel
theorem dX5_copyFrom_147 : decode cX5_copyFrom 147 = .ok (.putfield 56, 3) := by decide +kernel
theorem dX5_copyFrom_150 : decode cX5_copyFrom 150 = .ok (.iconst 0, 1) := by decide +kernel
theorem dX5_copyFrom_151 : decode cX5_copyFrom 151 = .ok (.istore_n 2, 1) := by decide +kernel
theorem dX5_copyFrom_152 : decode cX5_copyFrom 152 = .ok (.iload_n 2, 1) := by decide +kernel
theorem dX5_copyFrom_153 : decode cX5_copyFrom 153 = .ok (.bipush 6, 2) := by decide +kernel
theorem dX5_copyFrom_155 : decode cX5_copyFrom 155 = .ok (.if_icmp .ge 21, 3) := by decide +kernel
theorem dX5_copyFrom_158 : decode cX5_copyFrom 158 = .ok (.aload_n 0, 1) := by decide +kernel
theorem dX5_copyFrom_159 : decode cX5_copyFrom 159 = .ok (.getfield 38, 3) := by decide +kernel
theorem dX5_copyFrom_162 : decode cX5_copyFrom 162 = .ok (.iload_n 2, 1) := by decide +kernel
theorem dX5_copyFrom_163 : decode cX5_copyFrom 163 = .ok (.aload_n 1, 1) := by decide +kernel
theorem dX5_copyFrom_164 : decode cX5_copyFrom 164 = .ok (.getfield 38, 3) := by decide +kernel
theorem dX5_copyFrom_167 : decode cX5_copyFrom 167 = .ok (.iload_n 2, 1) := by decide +kernel
theorem dX5_copyFrom_168 : decode cX5_copyFrom 168 = .ok (.aaload, 1) := by decide +kernel
theorem dX5_copyFrom_169 : decode cX5_copyFrom 169 = .ok (.aastore, 1) := by decide +kernel
theorem dX5_copyFrom_170 : decode cX5_copyFrom 170 = .ok (.iinc 2 1, 3) := by decide +kernel
theorem dX5_copyFrom_173 : decode cX5_copyFrom 173 = .ok (.goto (-21), 3) := by decide +kernel
theorem dX5_copyFrom_176 : decode cX5_copyFrom 176 = .ok (.aload_n 0, 1) := by decide +kernel
theorem dX5_copyFrom_177 : decode cX5_copyFrom 177 = .ok (.aload_n 1, 1) := by decide +kernel
theorem dX5_copyFrom_178 : decode cX5_copyFrom 178 = .ok (.getfield 42, 3) := by decide +kernel
theorem dX5_copyFrom_181 : decode cX5_copyFrom 181 = .ok (.putfield 42, 3) := by decide +kernel
theorem dX5_copyFrom_184 : decode cX5_copyFrom 184 = .ok (.return_, 1) := by decide +kernel
theorem dX5_writeTo_0 : decode cX5_writeTo 0 = .ok (.aload_n 1, 1) := by decide +kernel
theorem dX5_writeTo_1 : decode cX5_writeTo 1 = .ok (.iconst 0, 1) := by decide +kernel
theorem dX5_writeTo_2 : decode cX5_writeTo 2 = .ok (.aload_n 0, 1) := by decide +kernel
theorem dX5_writeTo_3 : decode cX5_writeTo 3 = .ok (.getfield 33, 3) := by decide +kernel
theorem dX5_writeTo_6 : decode cX5_writeTo 6 = .ok (.iconst 0, 1) := by decide +kernel
theorem dX5_writeTo_7 : decode cX5_writeTo 7 = .ok (.iaload, 1) := by decide +kernel
theorem dX5_writeTo_8 : decode cX5_writeTo 8 = .ok (.iastore, 1) := by decide +kernel
theorem dX5_writeTo_9 : decode cX5_writeTo 9 = .ok (.aload_n 0, 1) := by decide +kernel
theorem dX5_writeTo_10 : decode cX5_writeTo 10 = .ok (.getfield 9, 3) := by decide +kernel
theorem dX5_writeTo_13 : decode cX5_writeTo 13 = .ok (.iconst 0, 1) := by decide +kernel
theorem dX5_writeTo_14 : decode cX5_writeTo 14 = .ok (.aload_n 1, 1) := by decide +kernel
theorem dX5_writeTo_15 : decode cX5_writeTo 15 = .ok (.iconst 1, 1) := by decide +kernel
theorem dX5_writeTo_16 : decode cX5_writeTo 16 = .ok (.bipush 6, 2) := by decide +kernel
theorem dX5_writeTo_18 : decode cX5_writeTo 18 = .ok (.invokestatic 90, 3) := by decide +kernel
theorem dX5_writeTo_21 : decode cX5_writeTo 21 = .ok (.aload_n 0, 1) := by decide +kernel
theorem dX5_writeTo_22 : decode cX5_writeTo 22 = .ok (.getfield 15, 3) := by decide +kernel
theorem dX5_writeTo_25 : decode cX5_writeTo 25 = .ok (.iconst 0, 1) := by decide +kernel
theorem dX5_writeTo_26 : decode cX5_writeTo 26 = .ok (.aload_n 1, 1) := by decide +kernel
theorem dX5_writeTo_27 : decode cX5_writeTo 27 = .ok (.bipush 7, 2) := by decide +kernel
theorem dX5_writeTo_29 : decode cX5_writeTo 29 = .ok (.bipush 6, 2) := by decide +kernel
theorem dX5_writeTo_31 : decode cX5_writeTo 31 = .ok (.invokestatic 90, 3) := by decide +kernel
theorem dX5_writeTo_34 : decode cX5_writeTo 34 = .ok (.aload_n 0, 1) := by decide +kernel
theorem dX5_writeTo_35 : decode cX5_writeTo 35 = .ok (.getfield 18, 3) := by decide +kernel
theorem dX5_writeTo_38 : decode cX5_writeTo 38 = .ok (.iconst 0, 1) := by decide +kernel
theorem dX5_writeTo_39 : decode cX5_writeTo 39 = .ok (.aload_n 1, 1) := by decide +kernel
theorem dX5_writeTo_40 : decode cX5_writeTo 40 = .ok (.bipush 13, 2) := by decide +kernel
theorem dX5_writeTo_42 : decode cX5_writeTo 42 = .ok (.bipush 6, 2) := by decide +kernel
theorem dX5_writeTo_44 : decode cX5_writeTo 44 = .ok (.invokestatic 90, 3) := by decide +kernel
theorem dX5_writeTo_47 : decode cX5_writeTo 47 = .ok (.aload_n 0, 1) := by decide +kernel
theorem dX5_writeTo_48 : decode cX5_writeTo 48 = .ok (.getfield 21, 3) := by decide +kernel
theorem dX5_writeTo_51 : decode cX5_writeTo 51 = .ok (.iconst 0, 1) := by decide +kernel
theorem dX5_writeTo_52 : decode cX5_writeTo 52 = .ok (.aload_n 1, 1) := by decide +kernel
theorem dX5_writeTo_53 : decode cX5_writeTo 53 = .ok (.bipush 19, 2) := by decide +kernel
theorem dX5_writeTo_55 : decode cX5_writeTo 55 = .ok (.bipush 6, 2) := by decide +kernel
theorem dX5_writeTo_57 : decode cX5_writeTo 57 = .ok (.invokestatic 90, 3) := by decide +kernel
theorem dX5_writeTo_60 : decode cX5_writeTo 60 = .ok (.aload_n 0, 1) := by decide +kernel
theorem dX5_writeTo_61 : decode cX5_writeTo 61 = .ok (.getfield 24, 3) := by decide +kernel
theorem dX5_writeTo_64 : decode cX5_writeTo 64 = .ok (.iconst 0, 1) := by decide +kernel
theorem dX5_writeTo_65 : decode cX5_writeTo 65 = .ok (.aload_n 1, 1) := by decide +kernel
theorem dX5_writeTo_66 : decode cX5_writeTo 66 = .ok (.bipush 25, 2) := by decide +kernel
theorem dX5_writeTo_68 : decode cX5_writeTo 68 = .ok (.bipush 6, 2) := by decide +kernel
theorem dX5_writeTo_70 : decode cX5_writeTo 70 = .ok (.invokestatic 90, 3) := by decide +kernel
theorem dX5_writeTo_73 : decode cX5_writeTo 73 = .ok (.return_, 1) := by decide +kernel
theorem dX5_readFrom_0 : decode cX5_readFrom 0 = .ok (.aload_n 0, 1) := by decide +kernel
theorem dX5_readFrom_1 : decode cX5_readFrom 1 = .ok (.getfield 33, 3) := by decide +kernel
theorem dX5_readFrom_4 : decode cX5_readFrom 4 = .ok (.iconst 0, 1) := by decide +kernel
theorem dX5_readFrom_5 : decode cX5_readFrom 5 = .ok (.aload_n 1, 1) := by decide +kernel
theorem dX5_readFrom_6 : decode cX5_readFrom 6 = .ok (.iconst 0, 1) := by decide +kernel
theorem dX5_readFrom_7 : decode cX5_readFrom 7 = .ok (.iaload, 1) := by decide +kernel
theorem dX5_readFrom_8 : decode cX5_readFrom 8 = .ok (.iastore, 1) := by decide +kernel
theorem dX5_readFrom_9 : decode cX5_readFrom 9 = .ok (.aload_n 1, 1) := by decide +kernel
theorem dX5_readFrom_10 : decode cX5_readFrom 10 = .ok (.iconst 1, 1) := by decide +kernel
theorem dX5_readFrom_11 : decode cX5_readFrom 11 = .ok (.aload_n 0, 1) := by decide +kernel
theorem dX5_readFrom_12 : decode cX5_readFrom 12 = .ok (.getfield 9, 3) := by decide +kernel
theorem dX5_readFrom_15 : decode cX5_readFrom 15 = .ok (.iconst 0, 1) := by decide +kernel
theorem dX5_readFrom_16 : decode cX5_readFrom 16 = .ok (.bipush 6, 2) := by decide +kernel
theorem dX5_readFrom_18 : decode cX5_readFrom 18 = .ok (.invokestatic 90, 3) := by decide +kernel
theorem dX5_readFrom_21 : decode cX5_readFrom 21 = .ok (.aload_n 1, 1) := by decide +kernel
theorem dX5_readFrom_22 : decode cX5_readFrom 22 = .ok (.bipush 7, 2) := by decide +kernel
theorem dX5_readFrom_24 : decode cX5_readFrom 24 = .ok (.aload_n 0, 1) := by decide +kernel
theorem dX5_readFrom_25 : decode cX5_readFrom 25 = .ok (.getfield 15, 3) := by decide +kernel
theorem dX5_readFrom_28 : decode cX5_readFrom 28 = .ok (.iconst 0, 1) := by decide +kernel
theorem dX5_readFrom_29 : decode cX5_readFrom 29 = .ok (.bipush 6, 2) := by decide +kernel
theorem dX5_readFrom_31 : decode cX5_readFrom 31 = .ok (.invokestatic 90, 3) := by decide +kernel
theorem dX5_readFrom_34 : decode cX5_readFrom 34 = .ok (.aload_n 1, 1) := by decide +kernel
theorem dX5_readFrom_35 : decode cX5_readFrom 35 = .ok (.bipush 13, 2) := by decide +kernel
theorem dX5_readFrom_37 : decode cX5_readFrom 37 = .ok (.aload_n 0, 1) := by decide +kernel
theorem dX5_readFrom_38 : decode cX5_readFrom 38 = .ok (.getfield 18, 3) := by decide +kernel
theorem dX5_readFrom_41 : decode cX5_readFrom 41 = .ok (.iconst 0, 1) := by decide +kernel
theorem dX5_readFrom_42 : decode cX5_readFrom 42 = .ok (.bipush 6, 2) := by decide +kernel
theorem dX5_readFrom_44 : decode cX5_readFrom 44 = .ok (.invokestatic 90, 3) := by decide +kernel
theorem dX5_readFrom_47 : decode cX5_readFrom 47 = .ok (.aload_n 1, 1) := by decide +kernel
theorem dX5_readFrom_48 : decode cX5_readFrom 48 = .ok (.bipush 19, 2) := by decide +kernel
theorem dX5_readFrom_50 : decode cX5_readFrom 50 = .ok (.aload_n 0, 1) := by decide +kernel
theorem dX5_readFrom_51 : decode cX5_readFrom 51 = .ok (.getfield 21, 3) := by decide +kernel
theorem dX5_readFrom_54 : decode cX5_readFrom 54 = .ok (.iconst 0, 1) := by decide +kernel
theorem dX5_readFrom_55 : decode cX5_readFrom 55 = .ok (.bipush 6, 2) := by decide +kernel
theorem dX5_readFrom_57 : decode cX5_readFrom 57 = .ok (.invokestatic 90, 3) := by decide +kernel
theorem dX5_readFrom_60 : decode cX5_readFrom 60 = .ok (.aload_n 1, 1) := by decide +kernel
theorem dX5_readFrom_61 : decode cX5_readFrom 61 = .ok (.bipush 25, 2) := by decide +kernel
theorem dX5_readFrom_63 : decode cX5_readFrom 63 = .ok (.aload_n 0, 1) := by decide +kernel
theorem dX5_readFrom_64 : decode cX5_readFrom 64 = .ok (.getfield 24, 3) := by decide +kernel
theorem dX5_readFrom_67 : decode cX5_readFrom 67 = .ok (.iconst 0, 1) := by decide +kernel
theorem dX5_readFrom_68 : decode cX5_readFrom 68 = .ok (.bipush 6, 2) := by decide +kernel
theorem dX5_readFrom_70 : decode cX5_readFrom 70 = .ok (.invokestatic 90, 3) := by decide +kernel
theorem dX5_readFrom_73 : decode cX5_readFrom 73 = .ok (.return_, 1) := by decide +kernel
theorem dX7_init_0 : decode cX7_init 0 = .ok (.aload_n 0, 1) := by decide +kernel
theorem dX7_init_1 : decode cX7_init 1 = .ok (.invokespecial 3, 3) := by decide +kernel
theorem dX7_init_4 : decode cX7_init 4 = .ok (.aload_n 0, 1) := by decide +kernel
theorem dX7_init_5 : decode cX7_init 5 = .ok (.bipush 50, 2) := by decide +kernel
theorem dX7_init_7 : decode cX7_init 7 = .ok (.newarray .long, 2) := by decide +kernel
theorem dX7_init_9 : decode cX7_init 9 = .ok (.putfield 9, 3) := by decide +kernel
theorem dX7_init_12 : decode cX7_init 12 = .ok (.return_, 1) := by decide +kernel
theorem dX7_reckon_0 : decode cX7_reckon 0 = .ok (.iload_n 2, 1) := by decide +kernel
theorem dX7_reckon_1 : decode cX7_reckon 1 = .ok (.iconst 3, 1) := by decide +kernel
theorem dX7_reckon_2 : decode cX7_reckon 2 = .ok (.imul, 1) := by decide +kernel
theorem dX7_reckon_3 : decode cX7_reckon 3 = .ok (.iload_n 3, 1) := by decide +kernel
theorem dX7_reckon_4 : decode cX7_reckon 4 = .ok (.iadd, 1) := by decide +kernel
theorem dX7_reckon_5 : decode cX7_reckon 5 = .ok (.istore 5, 2) := by decide +kernel
theorem dX7_reckon_7 : decode cX7_reckon 7 = .ok (.iload 5, 2) := by decide +kernel
theorem dX7_reckon_9 : decode cX7_reckon 9 = .ok (.ifCond .lt 15, 3) := by decide +kernel
theorem dX7_reckon_12 : decode cX7_reckon 12 = .ok (.iload 5, 2) := by decide +kernel
theorem dX7_reckon_14 : decode cX7_reckon 14 = .ok (.iconst 1, 1) := by decide +kernel
theorem dX7_reckon_15 : decode cX7_reckon 15 = .ok (.iadd, 1) := by decide +kernel
theorem dX7_reckon_16 : decode cX7_reckon 16 = .ok (.aload_n 1, 1) := by decide +kernel
theorem dX7_reckon_17 : decode cX7_reckon 17 = .ok (.getfield 15, 3) := by decide +kernel
theorem dX7_reckon_20 : decode cX7_reckon 20 = .ok (.arraylength, 1) := by decide +kernel
theorem dX7_reckon_21 : decode cX7_reckon 21 = .ok (.if_icmp .lt 7, 3) := by decide +kernel
theorem dX7_reckon_24 : decode cX7_reckon 24 = .ok (.ldc2_w 21, 3) := by decide +kernel
theorem dX7_reckon_27 : decode cX7_reckon 27 = .ok (.lreturn, 1) := by decide +kernel
theorem dX7_reckon_28 : decode cX7_reckon 28 = .ok (.aload_n 1, 1) := by decide +kernel
theorem dX7_reckon_29 : decode cX7_reckon 29 = .ok (.getfield 15, 3) := by decide +kernel
theorem dX7_reckon_32 : decode cX7_reckon 32 = .ok (.iload 5, 2) := by decide +kernel
theorem dX7_reckon_34 : decode cX7_reckon 34 = .ok (.iconst 1, 1) := by decide +kernel
theorem dX7_reckon_35 : decode cX7_reckon 35 = .ok (.iadd, 1) := by decide +kernel
theorem dX7_reckon_36 : decode cX7_reckon 36 = .ok (.iaload, 1) := by decide +kernel
theorem dX7_reckon_37 : decode cX7_reckon 37 = .ok (.aload_n 1, 1) := by decide +kernel
theorem dX7_reckon_38 : decode cX7_reckon 38 = .ok (.getfield 23, 3) := by decide +kernel
theorem dX7_reckon_41 : decode cX7_reckon 41 = .ok (.invokestatic 27, 3) := by decide +kernel
theorem dX7_reckon_44 : decode cX7_reckon 44 = .ok (.istore 6, 2) := by decide +kernel
theorem dX7_reckon_46 : decode cX7_reckon 46 = .ok (.aload_n 0, 1) := by decide +kernel
theorem dX7_reckon_47 : decode cX7_reckon 47 = .ok (.iconst 0, 1) := by decide +kernel
theorem dX7_reckon_48 : decode cX7_reckon 48 = .ok (.putfield 33, 3) := by decide +kernel
theorem dX7_reckon_51 : decode cX7_reckon 51 = .ok (.aload_n 1, 1) := by decide +kernel
theorem dX7_reckon_52 : decode cX7_reckon 52 = .ok (.getfield 15, 3) := by decide +kernel
theorem dX7_reckon_55 : decode cX7_reckon 55 = .ok (.iload 5, 2) := by decide +kernel
theorem dX7_reckon_57 : decode cX7_reckon 57 = .ok (.iaload, 1) := by decide +kernel
theorem dX7_reckon_58 : decode cX7_reckon 58 = .ok (.istore 7, 2) := by decide +kernel
theorem dX7_reckon_60 : decode cX7_reckon 60 = .ok (.iload 7, 2) := by decide +kernel
theorem dX7_reckon_62 : decode cX7_reckon 62 = .ok (.iload 6, 2) := by decide +kernel
theorem dX7_reckon_64 : decode cX7_reckon 64 = .ok (.if_icmp .ge 236, 3) := by decide +kernel
theorem dX7_reckon_67 : decode cX7_reckon 67 = .ok (.aload_n 1, 1) := by decide +kernel
theorem dX7_reckon_68 : decode cX7_reckon 68 = .ok (.getfield 36, 3) := by decide +kernel
theorem dX7_reckon_71 : decode cX7_reckon 71 = .ok (.iload 7, 2) := by decide +kernel
theorem dX7_reckon_73 : decode cX7_reckon 73 = .ok (.iaload, 1) := by decide +kernel
theorem dX7_reckon_74 : decode cX7_reckon 74 = .ok (.istore 8, 2) := by decide +kernel
theorem dX7_reckon_76 : decode cX7_reckon 76 = .ok (.aload_n 1, 1) := by decide +kernel
theorem dX7_reckon_77 : decode cX7_reckon 77 = .ok (.getfield 39, 3) := by decide +kernel
theorem dX7_reckon_80 : decode cX7_reckon 80 = .ok (.iload 7, 2) := by decide +kernel
theorem dX7_reckon_82 : decode cX7_reckon 82 = .ok (.iaload, 1) := by decide +kernel
theorem dX7_reckon_83 : decode cX7_reckon 83 = .ok (.istore 9, 2) := by decide +kernel
theorem dX7_reckon_85 : decode cX7_reckon 85 = .ok (.iload 8, 2) := by decide +kernel
theorem dX7_reckon_87 : decode cX7_reckon 87 = .ok (.sipush 300, 3) := by decide +kernel
theorem dX7_reckon_90 : decode cX7_reckon 90 = .ok (.if_icmp .ne 13, 3) := by decide +kernel
theorem dX7_reckon_93 : decode cX7_reckon 93 = .ok (.aload_n 0, 1) := by decide +kernel
theorem dX7_reckon_94 : decode cX7_reckon 94 = .ok (.iload 9, 2) := by decide +kernel
theorem dX7_reckon_96 : decode cX7_reckon 96 = .ok (.i2l, 1) := by decide +kernel
theorem dX7_reckon_97 : decode cX7_reckon 97 = .ok (.invokevirtual 42, 3) := by decide +kernel
theorem dX7_reckon_100 : decode cX7_reckon 100 = .ok (.goto 194, 3) := by decide +kernel
theorem dX7_reckon_103 : decode cX7_reckon 103 = .ok (.iload 8, 2) := by decide +kernel
theorem dX7_reckon_105 : decode cX7_reckon 105 = .ok (.sipush 303, 3) := by decide +kernel
theorem dX7_reckon_108 : decode cX7_reckon 108 = .ok (.if_icmp .ne 35, 3) := by decide +kernel
theorem dX7_reckon_111 : decode cX7_reckon 111 = .ok (.aload_n 0, 1) := by decide +kernel
theorem dX7_reckon_112 : decode cX7_reckon 112 = .ok (.iload 9, 2) := by decide +kernel
theorem dX7_reckon_114 : decode cX7_reckon 114 = .ok (.ifCond .lt 20, 3) := by decide +kernel
theorem dX7_reckon_117 : decode cX7_reckon 117 = .ok (.iload 9, 2) := by decide +kernel
theorem dX7_reckon_119 : decode cX7_reckon 119 = .ok (.aload 4, 2) := by decide +kernel
theorem dX7_reckon_121 : decode cX7_reckon 121 = .ok (.arraylength, 1) := by decide +kernel
theorem dX7_reckon_122 : decode cX7_reckon 122 = .ok (.if_icmp .ge 12, 3) := by decide +kernel
theorem dX7_reckon_125 : decode cX7_reckon 125 = .ok (.aload 4, 2) := by decide +kernel
theorem dX7_reckon_127 : decode cX7_reckon 127 = .ok (.iload 9, 2) := by decide +kernel
theorem dX7_reckon_129 : decode cX7_reckon 129 = .ok (.iaload, 1) := by decide +kernel
theorem dX7_reckon_130 : decode cX7_reckon 130 = .ok (.i2l, 1) := by decide +kernel
theorem dX7_reckon_131 : decode cX7_reckon 131 = .ok (.goto 6, 3) := by decide +kernel
theorem dX7_reckon_134 : decode cX7_reckon 134 = .ok (.ldc2_w 46, 3) := by decide +kernel
theorem dX7_reckon_137 : decode cX7_reckon 137 = .ok (.invokevirtual 42, 3) := by decide +kernel
theorem dX7_reckon_140 : decode cX7_reckon 140 = .ok (.goto 154, 3) := by decide +kernel
theorem dX7_reckon_143 : decode cX7_reckon 143 = .ok (.iload 8, 2) := by decide +kernel
theorem dX7_reckon_145 : decode cX7_reckon 145 = .ok (.sipush 256, 3) := by decide +kernel
theorem dX7_reckon_148 : decode cX7_reckon 148 = .ok (.if_icmp .eq 11, 3) := by decide +kernel
theorem dX7_reckon_151 : decode cX7_reckon 151 = .ok (.iload 8, 2) := by decide +kernel
theorem dX7_reckon_153 : decode cX7_reckon 153 = .ok (.sipush 257, 3) := by decide +kernel
theorem dX7_reckon_156 : decode cX7_reckon 156 = .ok (.if_icmp .ne 76, 3) := by decide +kernel
theorem dX7_reckon_159 : decode cX7_reckon 159 = .ok (.aload_n 0, 1) := by decide +kernel
theorem dX7_reckon_160 : decode cX7_reckon 160 = .ok (.invokevirtual 48, 3) := by decide +kernel
theorem dX7_reckon_163 : decode cX7_reckon 163 = .ok (.lconst 1, 1) := by decide +kernel
theorem dX7_reckon_164 : decode cX7_reckon 164 = .ok (.lcmp, 1) := by decide +kernel
theorem dX7_reckon_165 : decode cX7_reckon 165 = .ok (.ifCond .ne 7, 3) := by decide +kernel
theorem dX7_reckon_168 : decode cX7_reckon 168 = .ok (.iconst 1, 1) := by decide +kernel
theorem dX7_reckon_169 : decode cX7_reckon 169 = .ok (.goto 4, 3) := by decide +kernel
theorem dX7_reckon_172 : decode cX7_reckon 172 = .ok (.iconst 0, 1) := by decide +kernel
theorem dX7_reckon_173 : decode cX7_reckon 173 = .ok (.iload 8, 2) := by decide +kernel
theorem dX7_reckon_175 : decode cX7_reckon 175 = .ok (.sipush 256, 3) := by decide +kernel
theorem dX7_reckon_178 : decode cX7_reckon 178 = .ok (.if_icmp .ne 7, 3) := by decide +kernel
theorem dX7_reckon_181 : decode cX7_reckon 181 = .ok (.iconst 1, 1) := by decide +kernel
theorem dX7_reckon_182 : decode cX7_reckon 182 = .ok (.goto 4, 3) := by decide +kernel
theorem dX7_reckon_185 : decode cX7_reckon 185 = .ok (.iconst 0, 1) := by decide +kernel
theorem dX7_reckon_186 : decode cX7_reckon 186 = .ok (.if_icmp .ne 7, 3) := by decide +kernel
theorem dX7_reckon_189 : decode cX7_reckon 189 = .ok (.iconst 1, 1) := by decide +kernel
theorem dX7_reckon_190 : decode cX7_reckon 190 = .ok (.goto 4, 3) := by decide +kernel
theorem dX7_reckon_193 : decode cX7_reckon 193 = .ok (.iconst 0, 1) := by decide +kernel
theorem dX7_reckon_194 : decode cX7_reckon 194 = .ok (.istore 10, 2) := by decide +kernel
theorem dX7_reckon_196 : decode cX7_reckon 196 = .ok (.iload 10, 2) := by decide +kernel
theorem dX7_reckon_198 : decode cX7_reckon 198 = .ok (.ifCond .eq 31, 3) := by decide +kernel
theorem dX7_reckon_201 : decode cX7_reckon 201 = .ok (.aload_n 0, 1) := by decide +kernel
theorem dX7_reckon_202 : decode cX7_reckon 202 = .ok (.iload 8, 2) := by decide +kernel
theorem dX7_reckon_204 : decode cX7_reckon 204 = .ok (.sipush 256, 3) := by decide +kernel
theorem dX7_reckon_207 : decode cX7_reckon 207 = .ok (.if_icmp .ne 7, 3) := by decide +kernel
theorem dX7_reckon_210 : decode cX7_reckon 210 = .ok (.lconst 1, 1) := by decide +kernel
theorem dX7_reckon_211 : decode cX7_reckon 211 = .ok (.goto 4, 3) := by decide +kernel
theorem dX7_reckon_214 : decode cX7_reckon 214 = .ok (.lconst 0, 1) := by decide +kernel
theorem dX7_reckon_215 : decode cX7_reckon 215 = .ok (.invokevirtual 42, 3) := by decide +kernel
theorem dX7_reckon_218 : decode cX7_reckon 218 = .ok (.iload 7, 2) := by decide +kernel
theorem dX7_reckon_220 : decode cX7_reckon 220 = .ok (.iload 9, 2) := by decide +kernel
theorem dX7_reckon_222 : decode cX7_reckon 222 = .ok (.iconst 1, 1) := by decide +kernel
theorem dX7_reckon_223 : decode cX7_reckon 223 = .ok (.isub, 1) := by decide +kernel
theorem dX7_reckon_224 : decode cX7_reckon 224 = .ok (.invokestatic 52, 3) := by decide +kernel
theorem dX7_reckon_227 : decode cX7_reckon 227 = .ok (.istore 7, 2) := by decide +kernel
theorem dX7_reckon_229 : decode cX7_reckon 229 = .ok (.goto 65, 3) := by decide +kernel
theorem dX7_reckon_232 : decode cX7_reckon 232 = .ok (.aload_n 0, 1) := by decide +kernel
theorem dX7_reckon_233 : decode cX7_reckon 233 = .ok (.invokevirtual 48, 3) := by decide +kernel
theorem dX7_reckon_236 : decode cX7_reckon 236 = .ok (.lstore 10, 2) := by decide +kernel
theorem dX7_reckon_238 : decode cX7_reckon 238 = .ok (.iload 8, 2) := by decide +kernel
theorem dX7_reckon_240 : decode cX7_reckon 240 = .ok (.sipush 258, 3) := by decide +kernel
theorem dX7_reckon_243 : decode cX7_reckon 243 = .ok (.if_icmp .ne 10, 3) := by decide +kernel
theorem dX7_reckon_246 : decode cX7_reckon 246 = .ok (.lconst 1, 1) := by decide +kernel
theorem dX7_reckon_247 : decode cX7_reckon 247 = .ok (.lload 10, 2) := by decide +kernel
theorem dX7_reckon_249 : decode cX7_reckon 249 = .ok (.lsub, 1) := by decide +kernel
theorem dX7_reckon_250 : decode cX7_reckon 250 = .ok (.goto 14, 3) := by decide +kernel
theorem dX7_reckon_253 : decode cX7_reckon 253 = .ok (.iload 8, 2) := by decide +kernel
theorem dX7_reckon_255 : decode cX7_reckon 255 = .ok (.aload_n 0, 1) := by decide +kernel
theorem dX7_reckon_256 : decode cX7_reckon 256 = .ok (.invokevirtual 48, 3) := by decide +kernel
theorem dX7_reckon_259 : decode cX7_reckon 259 = .ok (.lload 10, 2) := by decide +kernel
theorem dX7_reckon_261 : decode cX7_reckon 261 = .ok (.invokestatic 55, 3) := by decide +kernel
theorem dX7_reckon_264 : decode cX7_reckon 264 = .ok (.lstore 12, 2) := by decide +kernel
theorem dX7_reckon_266 : decode cX7_reckon 266 = .ok (.lload 12, 2) := by decide +kernel
theorem dX7_reckon_268 : decode cX7_reckon 268 = .ok (.ldc2_w 59, 3) := by decide +kernel
theorem dX7_reckon_271 : decode cX7_reckon 271 = .ok (.lcmp, 1) := by decide +kernel
theorem dX7_reckon_272 : decode cX7_reckon 272 = .ok (.ifCond .gt 12, 3) := by decide +kernel
theorem dX7_reckon_275 : decode cX7_reckon 275 = .ok (.lload 12, 2) := by decide +kernel
theorem dX7_reckon_277 : decode cX7_reckon 277 = .ok (.ldc2_w 61, 3) := by decide +kernel
theorem dX7_reckon_280 : decode cX7_reckon 280 = .ok (.lcmp, 1) := by decide +kernel
theorem dX7_reckon_281 : decode cX7_reckon 281 = .ok (.ifCond .ge 7, 3) := by decide +kernel
theorem dX7_reckon_284 : decode cX7_reckon 284 = .ok (.ldc2_w 21, 3) := by decide +kernel
theorem dX7_reckon_287 : decode cX7_reckon 287 = .ok (.lreturn, 1) := by decide +kernel
theorem dX7_reckon_288 : decode cX7_reckon 288 = .ok (.aload_n 0, 1) := by decide +kernel
theorem dX7_reckon_289 : decode cX7_reckon 289 = .ok (.lload 12, 2) := by decide +kernel
theorem dX7_reckon_291 : decode cX7_reckon 291 = .ok (.invokevirtual 42, 3) := by decide +kernel
theorem dX7_reckon_294 : decode cX7_reckon 294 = .ok (.iinc 7 1, 3) := by decide +kernel
theorem dX7_reckon_297 : decode cX7_reckon 297 = .ok (.goto (-237), 3) := by decide +kernel
theorem dX7_reckon_300 : decode cX7_reckon 300 = .ok (.aload_n 0, 1) := by decide +kernel
theorem dX7_reckon_301 : decode cX7_reckon 301 = .ok (.getfield 33, 3) := by decide +kernel
theorem dX7_reckon_304 : decode cX7_reckon 304 = .ok (.ifCond .le 12, 3) := by decide +kernel
theorem dX7_reckon_307 : decode cX7_reckon 307 = .ok (.aload_n 0, 1) := by decide +kernel
theorem dX7_reckon_308 : decode cX7_reckon 308 = .ok (.getfield 9, 3) := by decide +kernel
theorem dX7_reckon_311 : decode cX7_reckon 311 = .ok (.iconst 0, 1) := by decide +kernel
theorem dX7_reckon_312 : decode cX7_reckon 312 = .ok (.laload, 1) := by decide +kernel
theorem dX7_reckon_313 : decode cX7_reckon 313 = .ok (.goto 4, 3) := by decide +kernel
theorem dX7_reckon_316 : decode cX7_reckon 316 = .ok (.lconst 1, 1) := by decide +kernel
theorem dX7_reckon_317 : decode cX7_reckon 317 = .ok (.lreturn, 1) := by decide +kernel
theorem dX7_push_0 : decode cX7_push 0 = .ok (.aload_n 0, 1) := by decide +kernel
theorem dX7_push_1 : decode cX7_push 1 = .ok (.getfield 33, 3) := by decide +kernel
theorem dX7_push_4 : decode cX7_push 4 = .ok (.aload_n 0, 1) := by decide +kernel
theorem dX7_push_5 : decode cX7_push 5 = .ok (.getfield 9, 3) := by decide +kernel
theorem dX7_push_8 : decode cX7_push 8 = .ok (.arraylength, 1) := by decide +kernel
theorem dX7_push_9 : decode cX7_push 9 = .ok (.if_icmp .ge 23, 3) := by decide +kernel
theorem dX7_push_12 : decode cX7_push 12 = .ok (.aload_n 0, 1) := by decide +kernel
theorem dX7_push_13 : decode cX7_push 13 = .ok (.getfield 9, 3) := by decide +kernel
theorem dX7_push_16 : decode cX7_push 16 = .ok (.aload_n 0, 1) := by decide +kernel
theorem dX7_push_17 : decode cX7_push 17 = .ok (.getfield 33, 3) := by decide +kernel
theorem dX7_push_20 : decode cX7_push 20 = .ok (.lload_n 1, 1) := by decide +kernel
theorem dX7_push_21 : decode cX7_push 21 = .ok (.lastore, 1) := by decide +kernel
theorem dX7_push_22 : decode cX7_push 22 = .ok (.aload_n 0, 1) := by decide +kernel
theorem dX7_push_23 : decode cX7_push 23 = .ok (.dup, 1) := by decide +kernel
theorem dX7_push_24 : decode cX7_push 24 = .ok (.getfield 33, 3) := by decide +kernel
theorem dX7_push_27 : decode cX7_push 27 = .ok (.iconst 1, 1) := by decide +kernel
theorem dX7_push_28 : decode cX7_push 28 = .ok (.iadd, 1) := by decide +kernel
theorem dX7_push_29 : decode cX7_push 29 = .ok (.putfield 33, 3) := by decide +kernel
theorem dX7_push_32 : decode cX7_push 32 = .ok (.return_, 1) := by decide +kernel
theorem dX7_pop_0 : decode cX7_pop 0 = .ok (.aload_n 0, 1) := by decide +kernel
theorem dX7_pop_1 : decode cX7_pop 1 = .ok (.getfield 33, 3) := by decide +kernel
theorem dX7_pop_4 : decode cX7_pop 4 = .ok (.ifCond .gt 5, 3) := by decide +kernel
theorem dX7_pop_7 : decode cX7_pop 7 = .ok (.lconst 0, 1) := by decide +kernel
theorem dX7_pop_8 : decode cX7_pop 8 = .ok (.lreturn, 1) := by decide +kernel
theorem dX7_pop_9 : decode cX7_pop 9 = .ok (.aload_n 0, 1) := by decide +kernel
theorem dX7_pop_10 : decode cX7_pop 10 = .ok (.dup, 1) := by decide +kernel
theorem dX7_pop_11 : decode cX7_pop 11 = .ok (.getfield 33, 3) := by decide +kernel
theorem dX7_pop_14 : decode cX7_pop 14 = .ok (.iconst 1, 1) := by decide +kernel
theorem dX7_pop_15 : decode cX7_pop 15 = .ok (.isub, 1) := by decide +kernel
theorem dX7_pop_16 : decode cX7_pop 16 = .ok (.putfield 33, 3) := by decide +kernel
theorem dX7_pop_19 : decode cX7_pop 19 = .ok (.aload_n 0, 1) := by decide +kernel
theorem dX7_pop_20 : decode cX7_pop 20 = .ok (.getfield 9, 3) := by decide +kernel
theorem dX7_pop_23 : decode cX7_pop 23 = .ok (.aload_n 0, 1) := by decide +kernel
theorem dX7_pop_24 : decode cX7_pop 24 = .ok (.getfield 33, 3) := by decide +kernel
theorem dX7_pop_27 : decode cX7_pop 27 = .ok (.laload, 1) := by decide +kernel
theorem dX7_pop_28 : decode cX7_pop 28 = .ok (.lreturn, 1) := by decide +kernel
theorem dX7_joined_0 : decode cX7_joined 0 = .ok (.iload_n 0, 1) := by decide +kernel
theorem dX7_joined_1 : decode cX7_joined 1 = .ok (.tableswitch 199 37 62 #[147, 199, 199, 199, 199, 127, 119, 199, 123, 199, 131, 199, 199, 199, 199, 199, 199, 199, 199, 199, 199, 199, 199, 163, 187, 175], 119) := by decide +kernel
theorem dX7_joined_120 : decode cX7_joined 120 = .ok (.lload_n 1, 1) := by decide +kernel
theorem dX7_joined_121 : decode cX7_joined 121 = .ok (.lload_n 3, 1) := by decide +kernel
theorem dX7_joined_122 : decode cX7_joined 122 = .ok (.ladd, 1) := by decide +kernel
theorem dX7_joined_123 : decode cX7_joined 123 = .ok (.lreturn, 1) := by decide +kernel
theorem dX7_joined_124 : decode cX7_joined 124 = .ok (.lload_n 1, 1) := by decide +kernel
theorem dX7_joined_125 : decode cX7_joined 125 = .ok (.lload_n 3, 1) := by decide +kernel
theorem dX7_joined_126 : decode cX7_joined 126 = .ok (.lsub, 1) := by decide +kernel
theorem dX7_joined_127 : decode cX7_joined 127 = .ok (.lreturn, 1) := by decide +kernel
theorem dX7_joined_128 : decode cX7_joined 128 = .ok (.lload_n 1, 1) := by decide +kernel
theorem dX7_joined_129 : decode cX7_joined 129 = .ok (.lload_n 3, 1) := by decide +kernel
theorem dX7_joined_130 : decode cX7_joined 130 = .ok (.lmul, 1) := by decide +kernel
theorem dX7_joined_131 : decode cX7_joined 131 = .ok (.lreturn, 1) := by decide +kernel
theorem dX7_joined_132 : decode cX7_joined 132 = .ok (.lload_n 3, 1) := by decide +kernel
theorem dX7_joined_133 : decode cX7_joined 133 = .ok (.lconst 0, 1) := by decide +kernel
theorem dX7_joined_134 : decode cX7_joined 134 = .ok (.lcmp, 1) := by decide +kernel
theorem dX7_joined_135 : decode cX7_joined 135 = .ok (.ifCond .ne 9, 3) := by decide +kernel
theorem dX7_joined_138 : decode cX7_joined 138 = .ok (.ldc2_w 21, 3) := by decide +kernel
theorem dX7_joined_141 : decode cX7_joined 141 = .ok (.goto 6, 3) := by decide +kernel
theorem dX7_joined_144 : decode cX7_joined 144 = .ok (.lload_n 1, 1) := by decide +kernel
theorem dX7_joined_145 : decode cX7_joined 145 = .ok (.lload_n 3, 1) := by decide +kernel
theorem dX7_joined_146 : decode cX7_joined 146 = .ok (.ldiv, 1) := by decide +kernel
theorem dX7_joined_147 : decode cX7_joined 147 = .ok (.lreturn, 1) := by decide +kernel
theorem dX7_joined_148 : decode cX7_joined 148 = .ok (.lload_n 3, 1) := by decide +kernel
theorem dX7_joined_149 : decode cX7_joined 149 = .ok (.lconst 0, 1) := by decide +kernel
theorem dX7_joined_150 : decode cX7_joined 150 = .ok (.lcmp, 1) := by decide +kernel
theorem dX7_joined_151 : decode cX7_joined 151 = .ok (.ifCond .ne 9, 3) := by decide +kernel
theorem dX7_joined_154 : decode cX7_joined 154 = .ok (.ldc2_w 21, 3) := by decide +kernel
theorem dX7_joined_157 : decode cX7_joined 157 = .ok (.goto 6, 3) := by decide +kernel
theorem dX7_joined_160 : decode cX7_joined 160 = .ok (.lload_n 1, 1) := by decide +kernel
theorem dX7_joined_161 : decode cX7_joined 161 = .ok (.lload_n 3, 1) := by decide +kernel
theorem dX7_joined_162 : decode cX7_joined 162 = .ok (.lrem, 1) := by decide +kernel
theorem dX7_joined_163 : decode cX7_joined 163 = .ok (.lreturn, 1) := by decide +kernel
theorem dX7_joined_164 : decode cX7_joined 164 = .ok (.lload_n 1, 1) := by decide +kernel
theorem dX7_joined_165 : decode cX7_joined 165 = .ok (.lload_n 3, 1) := by decide +kernel
theorem dX7_joined_166 : decode cX7_joined 166 = .ok (.lcmp, 1) := by decide +kernel
theorem dX7_joined_167 : decode cX7_joined 167 = .ok (.ifCond .ge 7, 3) := by decide +kernel
theorem dX7_joined_170 : decode cX7_joined 170 = .ok (.lconst 1, 1) := by decide +kernel
theorem dX7_joined_171 : decode cX7_joined 171 = .ok (.goto 4, 3) := by decide +kernel
theorem dX7_joined_174 : decode cX7_joined 174 = .ok (.lconst 0, 1) := by decide +kernel
theorem dX7_joined_175 : decode cX7_joined 175 = .ok (.lreturn, 1) := by decide +kernel
theorem dX7_joined_176 : decode cX7_joined 176 = .ok (.lload_n 1, 1) := by decide +kernel
theorem dX7_joined_177 : decode cX7_joined 177 = .ok (.lload_n 3, 1) := by decide +kernel
theorem dX7_joined_178 : decode cX7_joined 178 = .ok (.lcmp, 1) := by decide +kernel
theorem dX7_joined_179 : decode cX7_joined 179 = .ok (.ifCond .le 7, 3) := by decide +kernel
theorem dX7_joined_182 : decode cX7_joined 182 = .ok (.lconst 1, 1) := by decide +kernel
theorem dX7_joined_183 : decode cX7_joined 183 = .ok (.goto 4, 3) := by decide +kernel
theorem dX7_joined_186 : decode cX7_joined 186 = .ok (.lconst 0, 1) := by decide +kernel
theorem dX7_joined_187 : decode cX7_joined 187 = .ok (.lreturn, 1) := by decide +kernel
theorem dX7_joined_188 : decode cX7_joined 188 = .ok (.lload_n 1, 1) := by decide +kernel
theorem dX7_joined_189 : decode cX7_joined 189 = .ok (.lload_n 3, 1) := by decide +kernel
theorem dX7_joined_190 : decode cX7_joined 190 = .ok (.lcmp, 1) := by decide +kernel
theorem dX7_joined_191 : decode cX7_joined 191 = .ok (.ifCond .ne 7, 3) := by decide +kernel
theorem dX7_joined_194 : decode cX7_joined 194 = .ok (.lconst 1, 1) := by decide +kernel
theorem dX7_joined_195 : decode cX7_joined 195 = .ok (.goto 4, 3) := by decide +kernel
theorem dX7_joined_198 : decode cX7_joined 198 = .ok (.lconst 0, 1) := by decide +kernel
theorem dX7_joined_199 : decode cX7_joined 199 = .ok (.lreturn, 1) := by decide +kernel
theorem dX7_joined_200 : decode cX7_joined 200 = .ok (.ldc2_w 21, 3) := by decide +kernel
theorem dX7_joined_203 : decode cX7_joined 203 = .ok (.lreturn, 1) := by decide +kernel
theorem dX9_init_0 : decode cX9_init 0 = .ok (.aload_n 0, 1) := by decide +kernel
theorem dX9_init_1 : decode cX9_init 1 = .ok (.invokespecial 3, 3) := by decide +kernel
theorem dX9_init_4 : decode cX9_init 4 = .ok (.aload_n 0, 1) := by decide +kernel
theorem dX9_init_5 : decode cX9_init 5 = .ok (.sipush 400, 3) := by decide +kernel
theorem dX9_init_8 : decode cX9_init 8 = .ok (.newarray .int, 2) := by decide +kernel
theorem dX9_init_10 : decode cX9_init 10 = .ok (.putfield 9, 3) := by decide +kernel
theorem dX9_init_13 : decode cX9_init 13 = .ok (.return_, 1) := by decide +kernel
theorem dX9_hasRoomForFive_0 : decode cX9_hasRoomForFive 0 = .ok (.aload_n 0, 1) := by decide +kernel
theorem dX9_hasRoomForFive_1 : decode cX9_hasRoomForFive 1 = .ok (.getfield 15, 3) := by decide +kernel
theorem dX9_hasRoomForFive_4 : decode cX9_hasRoomForFive 4 = .ok (.bipush 20, 2) := by decide +kernel
theorem dX9_hasRoomForFive_6 : decode cX9_hasRoomForFive 6 = .ok (.iadd, 1) := by decide +kernel
theorem dX9_hasRoomForFive_7 : decode cX9_hasRoomForFive 7 = .ok (.sipush 400, 3) := by decide +kernel
theorem dX9_hasRoomForFive_10 : decode cX9_hasRoomForFive 10 = .ok (.if_icmp .gt 7, 3) := by decide +kernel
theorem dX9_hasRoomForFive_13 : decode cX9_hasRoomForFive 13 = .ok (.iconst 1, 1) := by decide +kernel
theorem dX9_hasRoomForFive_14 : decode cX9_hasRoomForFive 14 = .ok (.goto 4, 3) := by decide +kernel
theorem dX9_hasRoomForFive_17 : decode cX9_hasRoomForFive 17 = .ok (.iconst 0, 1) := by decide +kernel
theorem dX9_hasRoomForFive_18 : decode cX9_hasRoomForFive 18 = .ok (.ireturn, 1) := by decide +kernel
theorem dX9_add_0 : decode cX9_add 0 = .ok (.bipush 24, 2) := by decide +kernel
theorem dX9_add_2 : decode cX9_add 2 = .ok (.istore_n 2, 1) := by decide +kernel
theorem dX9_add_3 : decode cX9_add 3 = .ok (.iload_n 2, 1) := by decide +kernel
theorem dX9_add_4 : decode cX9_add 4 = .ok (.ifCond .lt 35, 3) := by decide +kernel
theorem dX9_add_7 : decode cX9_add 7 = .ok (.aload_n 0, 1) := by decide +kernel
theorem dX9_add_8 : decode cX9_add 8 = .ok (.getfield 9, 3) := by decide +kernel
theorem dX9_add_11 : decode cX9_add 11 = .ok (.aload_n 0, 1) := by decide +kernel
theorem dX9_add_12 : decode cX9_add 12 = .ok (.getfield 15, 3) := by decide +kernel
theorem dX9_add_15 : decode cX9_add 15 = .ok (.iload_n 1, 1) := by decide +kernel
theorem dX9_add_16 : decode cX9_add 16 = .ok (.iload_n 2, 1) := by decide +kernel
theorem dX9_add_17 : decode cX9_add 17 = .ok (.iushr, 1) := by decide +kernel
theorem dX9_add_18 : decode cX9_add 18 = .ok (.sipush 255, 3) := by decide +kernel
theorem dX9_add_21 : decode cX9_add 21 = .ok (.iand, 1) := by decide +kernel
theorem dX9_add_22 : decode cX9_add 22 = .ok (.iastore, 1) := by decide +kernel
theorem dX9_add_23 : decode cX9_add 23 = .ok (.aload_n 0, 1) := by decide +kernel
theorem dX9_add_24 : decode cX9_add 24 = .ok (.dup, 1) := by decide +kernel
theorem dX9_add_25 : decode cX9_add 25 = .ok (.getfield 15, 3) := by decide +kernel
theorem dX9_add_28 : decode cX9_add 28 = .ok (.iconst 1, 1) := by decide +kernel
theorem dX9_add_29 : decode cX9_add 29 = .ok (.iadd, 1) := by decide +kernel
theorem dX9_add_30 : decode cX9_add 30 = .ok (.putfield 15, 3) := by decide +kernel
theorem dX9_add_33 : decode cX9_add 33 = .ok (.iinc 2 (-8), 3) := by decide +kernel
theorem dX9_add_36 : decode cX9_add 36 = .ok (.goto (-33), 3) := by decide +kernel
theorem dX9_add_39 : decode cX9_add 39 = .ok (.return_, 1) := by decide +kernel
theorem dX9_byteAt_0 : decode cX9_byteAt 0 = .ok (.iload_n 1, 1) := by decide +kernel
theorem dX9_byteAt_1 : decode cX9_byteAt 1 = .ok (.ifCond .lt 20, 3) := by decide +kernel
theorem dX9_byteAt_4 : decode cX9_byteAt 4 = .ok (.iload_n 1, 1) := by decide +kernel
theorem dX9_byteAt_5 : decode cX9_byteAt 5 = .ok (.aload_n 0, 1) := by decide +kernel
theorem dX9_byteAt_6 : decode cX9_byteAt 6 = .ok (.getfield 15, 3) := by decide +kernel
theorem dX9_byteAt_9 : decode cX9_byteAt 9 = .ok (.if_icmp .ge 12, 3) := by decide +kernel
theorem dX9_byteAt_12 : decode cX9_byteAt 12 = .ok (.aload_n 0, 1) := by decide +kernel
theorem dX9_byteAt_13 : decode cX9_byteAt 13 = .ok (.getfield 9, 3) := by decide +kernel
theorem dX9_byteAt_16 : decode cX9_byteAt 16 = .ok (.iload_n 1, 1) := by decide +kernel
theorem dX9_byteAt_17 : decode cX9_byteAt 17 = .ok (.iaload, 1) := by decide +kernel
theorem dX9_byteAt_18 : decode cX9_byteAt 18 = .ok (.goto 4, 3) := by decide +kernel
theorem dX9_byteAt_21 : decode cX9_byteAt 21 = .ok (.iconst 0, 1) := by decide +kernel
theorem dX9_byteAt_22 : decode cX9_byteAt 22 = .ok (.ireturn, 1) := by decide +kernel
theorem dX10_init_0 : decode cX10_init 0 = .ok (.aload_n 0, 1) := by decide +kernel
theorem dX10_init_1 : decode cX10_init 1 = .ok (.invokespecial 3, 3) := by decide +kernel
theorem dX10_init_4 : decode cX10_init 4 = .ok (.aload_n 0, 1) := by decide +kernel
theorem dX10_init_5 : decode cX10_init 5 = .ok (.bipush 12, 2) := by decide +kernel
theorem dX10_init_7 : decode cX10_init 7 = .ok (.newarray .int, 2) := by decide +kernel
theorem dX10_init_9 : decode cX10_init 9 = .ok (.putfield 9, 3) := by decide +kernel
theorem dX10_init_12 : decode cX10_init 12 = .ok (.aload_n 0, 1) := by decide +kernel
theorem dX10_init_13 : decode cX10_init 13 = .ok (.bipush 12, 2) := by decide +kernel
theorem dX10_init_15 : decode cX10_init 15 = .ok (.newarray .int, 2) := by decide +kernel
theorem dX10_init_17 : decode cX10_init 17 = .ok (.putfield 15, 3) := by decide +kernel
theorem dX10_init_20 : decode cX10_init 20 = .ok (.aload_n 0, 1) := by decide +kernel
theorem dX10_init_21 : decode cX10_init 21 = .ok (.bipush 37, 2) := by decide +kernel
theorem dX10_init_23 : decode cX10_init 23 = .ok (.newarray .int, 2) := by decide +kernel
theorem dX10_init_25 : decode cX10_init 25 = .ok (.putfield 18, 3) := by decide +kernel
theorem dX10_init_28 : decode cX10_init 28 = .ok (.aload_n 0, 1) := by decide +kernel
theorem dX10_init_29 : decode cX10_init 29 = .ok (.iload_n 1, 1) := by decide +kernel
theorem dX10_init_30 : decode cX10_init 30 = .ok (.newarray .int, 2) := by decide +kernel
theorem dX10_init_32 : decode cX10_init 32 = .ok (.putfield 21, 3) := by decide +kernel
theorem dX10_init_35 : decode cX10_init 35 = .ok (.aload_n 0, 1) := by decide +kernel
theorem dX10_init_36 : decode cX10_init 36 = .ok (.iload_n 1, 1) := by decide +kernel
theorem dX10_init_37 : decode cX10_init 37 = .ok (.newarray .int, 2) := by decide +kernel
theorem dX10_init_39 : decode cX10_init 39 = .ok (.putfield 24, 3) := by decide +kernel
theorem dX10_init_42 : decode cX10_init 42 = .ok (.return_, 1) := by decide +kernel
theorem dX10_empty_0 : decode cX10_empty 0 = .ok (.aload_n 0, 1) := by decide +kernel
theorem dX10_empty_1 : decode cX10_empty 1 = .ok (.iconst 0, 1) := by decide +kernel
theorem dX10_empty_2 : decode cX10_empty 2 = .ok (.putfield 27, 3) := by decide +kernel
theorem dX10_empty_5 : decode cX10_empty 5 = .ok (.aload_n 0, 1) := by decide +kernel
theorem dX10_empty_6 : decode cX10_empty 6 = .ok (.iconst 0, 1) := by decide +kernel
theorem dX10_empty_7 : decode cX10_empty 7 = .ok (.putfield 31, 3) := by decide +kernel
theorem dX10_empty_10 : decode cX10_empty 10 = .ok (.aload_n 0, 1) := by decide +kernel
theorem dX10_empty_11 : decode cX10_empty 11 = .ok (.iconst 0, 1) := by decide +kernel
theorem dX10_empty_12 : decode cX10_empty 12 = .ok (.putfield 34, 3) := by decide +kernel
theorem dX10_empty_15 : decode cX10_empty 15 = .ok (.return_, 1) := by decide +kernel
theorem dX10_beginClause_0 : decode cX10_beginClause 0 = .ok (.aload_n 0, 1) := by decide +kernel
theorem dX10_beginClause_1 : decode cX10_beginClause 1 = .ok (.getfield 27, 3) := by decide +kernel
theorem dX10_beginClause_4 : decode cX10_beginClause 4 = .ok (.bipush 12, 2) := by decide +kernel
theorem dX10_beginClause_6 : decode cX10_beginClause 6 = .ok (.if_icmp .ge 33, 3) := by decide +kernel
theorem dX10_beginClause_9 : decode cX10_beginClause 9 = .ok (.aload_n 0, 1) := by decide +kernel
theorem dX10_beginClause_10 : decode cX10_beginClause 10 = .ok (.getfield 9, 3) := by decide +kernel
theorem dX10_beginClause_13 : decode cX10_beginClause 13 = .ok (.aload_n 0, 1) := by decide +kernel
theorem dX10_beginClause_14 : decode cX10_beginClause 14 = .ok (.getfield 27, 3) := by decide +kernel
theorem dX10_beginClause_17 : decode cX10_beginClause 17 = .ok (.iload_n 1, 1) := by decide +kernel
theorem dX10_beginClause_18 : decode cX10_beginClause 18 = .ok (.iastore, 1) := by decide +kernel
theorem dX10_beginClause_19 : decode cX10_beginClause 19 = .ok (.aload_n 0, 1) := by decide +kernel
theorem dX10_beginClause_20 : decode cX10_beginClause 20 = .ok (.getfield 15, 3) := by decide +kernel
theorem dX10_beginClause_23 : decode cX10_beginClause 23 = .ok (.aload_n 0, 1) := by decide +kernel
theorem dX10_beginClause_24 : decode cX10_beginClause 24 = .ok (.getfield 27, 3) := by decide +kernel
theorem dX10_beginClause_27 : decode cX10_beginClause 27 = .ok (.iconst 1, 1) := by decide +kernel
theorem dX10_beginClause_28 : decode cX10_beginClause 28 = .ok (.iastore, 1) := by decide +kernel
theorem dX10_beginClause_29 : decode cX10_beginClause 29 = .ok (.aload_n 0, 1) := by decide +kernel
theorem dX10_beginClause_30 : decode cX10_beginClause 30 = .ok (.dup, 1) := by decide +kernel
theorem dX10_beginClause_31 : decode cX10_beginClause 31 = .ok (.getfield 27, 3) := by decide +kernel
theorem dX10_beginClause_34 : decode cX10_beginClause 34 = .ok (.iconst 1, 1) := by decide +kernel
theorem dX10_beginClause_35 : decode cX10_beginClause 35 = .ok (.iadd, 1) := by decide +kernel
theorem dX10_beginClause_36 : decode cX10_beginClause 36 = .ok (.putfield 27, 3) := by decide +kernel
theorem dX10_beginClause_39 : decode cX10_beginClause 39 = .ok (.return_, 1) := by decide +kernel
theorem dX10_setTimes_0 : decode cX10_setTimes 0 = .ok (.aload_n 0, 1) := by decide +kernel
theorem dX10_setTimes_1 : decode cX10_setTimes 1 = .ok (.getfield 27, 3) := by decide +kernel
theorem dX10_setTimes_4 : decode cX10_setTimes 4 = .ok (.ifCond .le 15, 3) := by decide +kernel
theorem dX10_setTimes_7 : decode cX10_setTimes 7 = .ok (.aload_n 0, 1) := by decide +kernel
theorem dX10_setTimes_8 : decode cX10_setTimes 8 = .ok (.getfield 15, 3) := by decide +kernel
theorem dX10_setTimes_11 : decode cX10_setTimes 11 = .ok (.aload_n 0, 1) := by decide +kernel
theorem dX10_setTimes_12 : decode cX10_setTimes 12 = .ok (.getfield 27, 3) := by decide +kernel
theorem dX10_setTimes_15 : decode cX10_setTimes 15 = .ok (.iconst 1, 1) := by decide +kernel
theorem dX10_setTimes_16 : decode cX10_setTimes 16 = .ok (.isub, 1) := by decide +kernel
theorem dX10_setTimes_17 : decode cX10_setTimes 17 = .ok (.iload_n 1, 1) := by decide +kernel
theorem dX10_setTimes_18 : decode cX10_setTimes 18 = .ok (.iastore, 1) := by decide +kernel
theorem dX10_setTimes_19 : decode cX10_setTimes 19 = .ok (.return_, 1) := by decide +kernel
theorem dX10_endPiece_0 : decode cX10_endPiece 0 = .ok (.aload_n 0, 1) := by decide +kernel
theorem dX10_endPiece_1 : decode cX10_endPiece 1 = .ok (.getfield 34, 3) := by decide +kernel
theorem dX10_endPiece_4 : decode cX10_endPiece 4 = .ok (.iconst 1, 1) := by decide +kernel
theorem dX10_endPiece_5 : decode cX10_endPiece 5 = .ok (.iadd, 1) := by decide +kernel
theorem dX10_endPiece_6 : decode cX10_endPiece 6 = .ok (.aload_n 0, 1) := by decide +kernel
theorem dX10_endPiece_7 : decode cX10_endPiece 7 = .ok (.getfield 18, 3) := by decide +kernel
theorem dX10_endPiece_10 : decode cX10_endPiece 10 = .ok (.arraylength, 1) := by decide +kernel
theorem dX10_endPiece_11 : decode cX10_endPiece 11 = .ok (.if_icmp .ge 26, 3) := by decide +kernel
theorem dX10_endPiece_14 : decode cX10_endPiece 14 = .ok (.aload_n 0, 1) := by decide +kernel
theorem dX10_endPiece_15 : decode cX10_endPiece 15 = .ok (.dup, 1) := by decide +kernel
theorem dX10_endPiece_16 : decode cX10_endPiece 16 = .ok (.getfield 34, 3) := by decide +kernel
theorem dX10_endPiece_19 : decode cX10_endPiece 19 = .ok (.iconst 1, 1) := by decide +kernel
theorem dX10_endPiece_20 : decode cX10_endPiece 20 = .ok (.iadd, 1) := by decide +kernel
theorem dX10_endPiece_21 : decode cX10_endPiece 21 = .ok (.putfield 34, 3) := by decide +kernel
theorem dX10_endPiece_24 : decode cX10_endPiece 24 = .ok (.aload_n 0, 1) := by decide +kernel
theorem dX10_endPiece_25 : decode cX10_endPiece 25 = .ok (.getfield 18, 3) := by decide +kernel
theorem dX10_endPiece_28 : decode cX10_endPiece 28 = .ok (.aload_n 0, 1) := by decide +kernel
theorem dX10_endPiece_29 : decode cX10_endPiece 29 = .ok (.getfield 34, 3) := by decide +kernel
theorem dX10_endPiece_32 : decode cX10_endPiece 32 = .ok (.aload_n 0, 1) := by decide +kernel
theorem dX10_endPiece_33 : decode cX10_endPiece 33 = .ok (.getfield 31, 3) := by decide +kernel
theorem dX10_endPiece_36 : decode cX10_endPiece 36 = .ok (.iastore, 1) := by decide +kernel
theorem dX10_endPiece_37 : decode cX10_endPiece 37 = .ok (.return_, 1) := by decide +kernel
theorem dX10_add_0 : decode cX10_add 0 = .ok (.aload_n 0, 1) := by decide +kernel
theorem dX10_add_1 : decode cX10_add 1 = .ok (.getfield 31, 3) := by decide +kernel
theorem dX10_add_4 : decode cX10_add 4 = .ok (.istore_n 3, 1) := by decide +kernel
theorem dX10_add_5 : decode cX10_add 5 = .ok (.iload_n 3, 1) := by decide +kernel
theorem dX10_add_6 : decode cX10_add 6 = .ok (.aload_n 0, 1) := by decide +kernel
theorem dX10_add_7 : decode cX10_add 7 = .ok (.getfield 21, 3) := by decide +kernel
theorem dX10_add_10 : decode cX10_add 10 = .ok (.arraylength, 1) := by decide +kernel
theorem dX10_add_11 : decode cX10_add 11 = .ok (.if_icmp .ge 27, 3) := by decide +kernel
theorem dX10_add_14 : decode cX10_add 14 = .ok (.aload_n 0, 1) := by decide +kernel
theorem dX10_add_15 : decode cX10_add 15 = .ok (.getfield 21, 3) := by decide +kernel
theorem dX10_add_18 : decode cX10_add 18 = .ok (.iload_n 3, 1) := by decide +kernel
theorem dX10_add_19 : decode cX10_add 19 = .ok (.iload_n 1, 1) := by decide +kernel
theorem dX10_add_20 : decode cX10_add 20 = .ok (.iastore, 1) := by decide +kernel
theorem dX10_add_21 : decode cX10_add 21 = .ok (.aload_n 0, 1) := by decide +kernel
theorem dX10_add_22 : decode cX10_add 22 = .ok (.getfield 24, 3) := by decide +kernel
theorem dX10_add_25 : decode cX10_add 25 = .ok (.iload_n 3, 1) := by decide +kernel
theorem dX10_add_26 : decode cX10_add 26 = .ok (.iload_n 2, 1) := by decide +kernel
theorem dX10_add_27 : decode cX10_add 27 = .ok (.iastore, 1) := by decide +kernel
theorem dX10_add_28 : decode cX10_add 28 = .ok (.aload_n 0, 1) := by decide +kernel
theorem dX10_add_29 : decode cX10_add 29 = .ok (.dup, 1) := by decide +kernel
theorem dX10_add_30 : decode cX10_add 30 = .ok (.getfield 31, 3) := by decide +kernel
theorem dX10_add_33 : decode cX10_add 33 = .ok (.iconst 1, 1) := by decide +kernel
theorem dX10_add_34 : decode cX10_add 34 = .ok (.iadd, 1) := by decide +kernel
theorem dX10_add_35 : decode cX10_add 35 = .ok (.putfield 31, 3) := by decide +kernel
theorem dX10_add_38 : decode cX10_add 38 = .ok (.iload_n 3, 1) := by decide +kernel
theorem dX10_add_39 : decode cX10_add 39 = .ok (.ireturn, 1) := by decide +kernel
theorem dX10_leadHere_0 : decode cX10_leadHere 0 = .ok (.iload_n 1, 1) := by decide +kernel
theorem dX10_leadHere_1 : decode cX10_leadHere 1 = .ok (.ifCond .lt 21, 3) := by decide +kernel
theorem dX10_leadHere_4 : decode cX10_leadHere 4 = .ok (.iload_n 1, 1) := by decide +kernel
theorem dX10_leadHere_5 : decode cX10_leadHere 5 = .ok (.aload_n 0, 1) := by decide +kernel
theorem dX10_leadHere_6 : decode cX10_leadHere 6 = .ok (.getfield 31, 3) := by decide +kernel
theorem dX10_leadHere_9 : decode cX10_leadHere 9 = .ok (.if_icmp .ge 13, 3) := by decide +kernel
theorem dX10_leadHere_12 : decode cX10_leadHere 12 = .ok (.aload_n 0, 1) := by decide +kernel
theorem dX10_leadHere_13 : decode cX10_leadHere 13 = .ok (.getfield 24, 3) := by decide +kernel
theorem dX10_leadHere_16 : decode cX10_leadHere 16 = .ok (.iload_n 1, 1) := by decide +kernel
theorem dX10_leadHere_17 : decode cX10_leadHere 17 = .ok (.aload_n 0, 1) := by decide +kernel
theorem dX10_leadHere_18 : decode cX10_leadHere 18 = .ok (.getfield 31, 3) := by decide +kernel
theorem dX10_leadHere_21 : decode cX10_leadHere 21 = .ok (.iastore, 1) := by decide +kernel
theorem dX10_leadHere_22 : decode cX10_leadHere 22 = .ok (.return_, 1) := by decide +kernel
theorem dX10_copied_0 : decode cX10_copied 0 = .ok (.new 10, 3) := by decide +kernel
theorem dX10_copied_3 : decode cX10_copied 3 = .ok (.dup, 1) := by decide +kernel
theorem dX10_copied_4 : decode cX10_copied 4 = .ok (.aload_n 0, 1) := by decide +kernel
theorem dX10_copied_5 : decode cX10_copied 5 = .ok (.getfield 31, 3) := by decide +kernel
theorem dX10_copied_8 : decode cX10_copied 8 = .ok (.invokespecial 37, 3) := by decide +kernel
theorem dX10_copied_11 : decode cX10_copied 11 = .ok (.astore_n 1, 1) := by decide +kernel
theorem dX10_copied_12 : decode cX10_copied 12 = .ok (.aload_n 1, 1) := by decide +kernel
theorem dX10_copied_13 : decode cX10_copied 13 = .ok (.aload_n 0, 1) := by decide +kernel
theorem dX10_copied_14 : decode cX10_copied 14 = .ok (.getfield 27, 3) := by decide +kernel
theorem dX10_copied_17 : decode cX10_copied 17 = .ok (.putfield 27, 3) := by decide +kernel
theorem dX10_copied_20 : decode cX10_copied 20 = .ok (.aload_n 1, 1) := by decide +kernel
theorem dX10_copied_21 : decode cX10_copied 21 = .ok (.aload_n 0, 1) := by decide +kernel
theorem dX10_copied_22 : decode cX10_copied 22 = .ok (.getfield 31, 3) := by decide +kernel
theorem dX10_copied_25 : decode cX10_copied 25 = .ok (.putfield 31, 3) := by decide +kernel
theorem dX10_copied_28 : decode cX10_copied 28 = .ok (.aload_n 1, 1) := by decide +kernel
theorem dX10_copied_29 : decode cX10_copied 29 = .ok (.aload_n 0, 1) := by decide +kernel
theorem dX10_copied_30 : decode cX10_copied 30 = .ok (.getfield 34, 3) := by decide +kernel
theorem dX10_copied_33 : decode cX10_copied 33 = .ok (.putfield 34, 3) := by decide +kernel
theorem dX10_copied_36 : decode cX10_copied 36 = .ok (.aload_n 0, 1) := by decide +kernel
theorem dX10_copied_37 : decode cX10_copied 37 = .ok (.getfield 9, 3) := by decide +kernel
theorem dX10_copied_40 : decode cX10_copied 40 = .ok (.iconst 0, 1) := by decide +kernel
theorem dX10_copied_41 : decode cX10_copied 41 = .ok (.aload_n 1, 1) := by decide +kernel
theorem dX10_copied_42 : decode cX10_copied 42 = .ok (.getfield 9, 3) := by decide +kernel
theorem dX10_copied_45 : decode cX10_copied 45 = .ok (.iconst 0, 1) := by decide +kernel
theorem dX10_copied_46 : decode cX10_copied 46 = .ok (.bipush 12, 2) := by decide +kernel
theorem dX10_copied_48 : decode cX10_copied 48 = .ok (.invokestatic 40, 3) := by decide +kernel
theorem dX10_copied_51 : decode cX10_copied 51 = .ok (.aload_n 0, 1) := by decide +kernel
theorem dX10_copied_52 : decode cX10_copied 52 = .ok (.getfield 15, 3) := by decide +kernel
theorem dX10_copied_55 : decode cX10_copied 55 = .ok (.iconst 0, 1) := by decide +kernel
theorem dX10_copied_56 : decode cX10_copied 56 = .ok (.aload_n 1, 1) := by decide +kernel
theorem dX10_copied_57 : decode cX10_copied 57 = .ok (.getfield 15, 3) := by decide +kernel
theorem dX10_copied_60 : decode cX10_copied 60 = .ok (.iconst 0, 1) := by decide +kernel
theorem dX10_copied_61 : decode cX10_copied 61 = .ok (.bipush 12, 2) := by decide +kernel
theorem dX10_copied_63 : decode cX10_copied 63 = .ok (.invokestatic 40, 3) := by decide +kernel
theorem dX10_copied_66 : decode cX10_copied 66 = .ok (.aload_n 0, 1) := by decide +kernel
theorem dX10_copied_67 : decode cX10_copied 67 = .ok (.getfield 18, 3) := by decide +kernel
theorem dX10_copied_70 : decode cX10_copied 70 = .ok (.iconst 0, 1) := by decide +kernel
theorem dX10_copied_71 : decode cX10_copied 71 = .ok (.aload_n 1, 1) := by decide +kernel
theorem dX10_copied_72 : decode cX10_copied 72 = .ok (.getfield 18, 3) := by decide +kernel
theorem dX10_copied_75 : decode cX10_copied 75 = .ok (.iconst 0, 1) := by decide +kernel
theorem dX10_copied_76 : decode cX10_copied 76 = .ok (.aload_n 0, 1) := by decide +kernel
theorem dX10_copied_77 : decode cX10_copied 77 = .ok (.getfield 18, 3) := by decide +kernel
theorem dX10_copied_80 : decode cX10_copied 80 = .ok (.arraylength, 1) := by decide +kernel
theorem dX10_copied_81 : decode cX10_copied 81 = .ok (.invokestatic 40, 3) := by decide +kernel
theorem dX10_copied_84 : decode cX10_copied 84 = .ok (.aload_n 0, 1) := by decide +kernel
theorem dX10_copied_85 : decode cX10_copied 85 = .ok (.getfield 21, 3) := by decide +kernel
theorem dX10_copied_88 : decode cX10_copied 88 = .ok (.iconst 0, 1) := by decide +kernel
theorem dX10_copied_89 : decode cX10_copied 89 = .ok (.aload_n 1, 1) := by decide +kernel
theorem dX10_copied_90 : decode cX10_copied 90 = .ok (.getfield 21, 3) := by decide +kernel
theorem dX10_copied_93 : decode cX10_copied 93 = .ok (.iconst 0, 1) := by decide +kernel
theorem dX10_copied_94 : decode cX10_copied 94 = .ok (.aload_n 0, 1) := by decide +kernel
theorem dX10_copied_95 : decode cX10_copied 95 = .ok (.getfield 31, 3) := by decide +kernel
theorem dX10_copied_98 : decode cX10_copied 98 = .ok (.invokestatic 40, 3) := by decide +kernel
theorem dX10_copied_101 : decode cX10_copied 101 = .ok (.aload_n 0, 1) := by decide +kernel
theorem dX10_copied_102 : decode cX10_copied 102 = .ok (.getfield 24, 3) := by decide +kernel
theorem dX10_copied_105 : decode cX10_copied 105 = .ok (.iconst 0, 1) := by decide +kernel
theorem dX10_copied_106 : decode cX10_copied 106 = .ok (.aload_n 1, 1) := by decide +kernel
theorem dX10_copied_107 : decode cX10_copied 107 = .ok (.getfield 24, 3) := by decide +kernel
theorem dX10_copied_110 : decode cX10_copied 110 = .ok (.iconst 0, 1) := by decide +kernel
theorem dX10_copied_111 : decode cX10_copied 111 = .ok (.aload_n 0, 1) := by decide +kernel
theorem dX10_copied_112 : decode cX10_copied 112 = .ok (.getfield 31, 3) := by decide +kernel
theorem dX10_copied_115 : decode cX10_copied 115 = .ok (.invokestatic 40, 3) := by decide +kernel
theorem dX10_copied_118 : decode cX10_copied 118 = .ok (.aload_n 1, 1) := by decide +kernel
theorem dX10_copied_119 : decode cX10_copied 119 = .ok (.areturn, 1) := by decide +kernel
theorem dJ6_bitCount_0f7a4_0 : decode cJ6_bitCount_0f7a4 0 = .ok (.iload_n 0, 1) := by decide +kernel
theorem dJ6_bitCount_0f7a4_1 : decode cJ6_bitCount_0f7a4 1 = .ok (.iload_n 0, 1) := by decide +kernel
theorem dJ6_bitCount_0f7a4_2 : decode cJ6_bitCount_0f7a4 2 = .ok (.iconst 1, 1) := by decide +kernel
theorem dJ6_bitCount_0f7a4_3 : decode cJ6_bitCount_0f7a4 3 = .ok (.iushr, 1) := by decide +kernel
theorem dJ6_bitCount_0f7a4_4 : decode cJ6_bitCount_0f7a4 4 = .ok (.ldc_w 265, 3) := by decide +kernel
theorem dJ6_bitCount_0f7a4_7 : decode cJ6_bitCount_0f7a4 7 = .ok (.iand, 1) := by decide +kernel
theorem dJ6_bitCount_0f7a4_8 : decode cJ6_bitCount_0f7a4 8 = .ok (.isub, 1) := by decide +kernel
theorem dJ6_bitCount_0f7a4_9 : decode cJ6_bitCount_0f7a4 9 = .ok (.istore_n 0, 1) := by decide +kernel
theorem dJ6_bitCount_0f7a4_10 : decode cJ6_bitCount_0f7a4 10 = .ok (.iload_n 0, 1) := by decide +kernel
theorem dJ6_bitCount_0f7a4_11 : decode cJ6_bitCount_0f7a4 11 = .ok (.ldc_w 266, 3) := by decide +kernel
theorem dJ6_bitCount_0f7a4_14 : decode cJ6_bitCount_0f7a4 14 = .ok (.iand, 1) := by decide +kernel
theorem dJ6_bitCount_0f7a4_15 : decode cJ6_bitCount_0f7a4 15 = .ok (.iload_n 0, 1) := by decide +kernel
theorem dJ6_bitCount_0f7a4_16 : decode cJ6_bitCount_0f7a4 16 = .ok (.iconst 2, 1) := by decide +kernel
theorem dJ6_bitCount_0f7a4_17 : decode cJ6_bitCount_0f7a4 17 = .ok (.iushr, 1) := by decide +kernel
theorem dJ6_bitCount_0f7a4_18 : decode cJ6_bitCount_0f7a4 18 = .ok (.ldc_w 266, 3) := by decide +kernel
theorem dJ6_bitCount_0f7a4_21 : decode cJ6_bitCount_0f7a4 21 = .ok (.iand, 1) := by decide +kernel
theorem dJ6_bitCount_0f7a4_22 : decode cJ6_bitCount_0f7a4 22 = .ok (.iadd, 1) := by decide +kernel
theorem dJ6_bitCount_0f7a4_23 : decode cJ6_bitCount_0f7a4 23 = .ok (.istore_n 0, 1) := by decide +kernel
theorem dJ6_bitCount_0f7a4_24 : decode cJ6_bitCount_0f7a4 24 = .ok (.iload_n 0, 1) := by decide +kernel
theorem dJ6_bitCount_0f7a4_25 : decode cJ6_bitCount_0f7a4 25 = .ok (.iload_n 0, 1) := by decide +kernel
theorem dJ6_bitCount_0f7a4_26 : decode cJ6_bitCount_0f7a4 26 = .ok (.iconst 4, 1) := by decide +kernel
theorem dJ6_bitCount_0f7a4_27 : decode cJ6_bitCount_0f7a4 27 = .ok (.iushr, 1) := by decide +kernel
theorem dJ6_bitCount_0f7a4_28 : decode cJ6_bitCount_0f7a4 28 = .ok (.iadd, 1) := by decide +kernel
theorem dJ6_bitCount_0f7a4_29 : decode cJ6_bitCount_0f7a4 29 = .ok (.ldc_w 267, 3) := by decide +kernel
theorem dJ6_bitCount_0f7a4_32 : decode cJ6_bitCount_0f7a4 32 = .ok (.iand, 1) := by decide +kernel
theorem dJ6_bitCount_0f7a4_33 : decode cJ6_bitCount_0f7a4 33 = .ok (.istore_n 0, 1) := by decide +kernel
theorem dJ6_bitCount_0f7a4_34 : decode cJ6_bitCount_0f7a4 34 = .ok (.iload_n 0, 1) := by decide +kernel
theorem dJ6_bitCount_0f7a4_35 : decode cJ6_bitCount_0f7a4 35 = .ok (.iload_n 0, 1) := by decide +kernel
theorem dJ6_bitCount_0f7a4_36 : decode cJ6_bitCount_0f7a4 36 = .ok (.bipush 8, 2) := by decide +kernel
theorem dJ6_bitCount_0f7a4_38 : decode cJ6_bitCount_0f7a4 38 = .ok (.iushr, 1) := by decide +kernel
theorem dJ6_bitCount_0f7a4_39 : decode cJ6_bitCount_0f7a4 39 = .ok (.iadd, 1) := by decide +kernel
theorem dJ6_bitCount_0f7a4_40 : decode cJ6_bitCount_0f7a4 40 = .ok (.istore_n 0, 1) := by decide +kernel
theorem dJ6_bitCount_0f7a4_41 : decode cJ6_bitCount_0f7a4 41 = .ok (.iload_n 0, 1) := by decide +kernel
theorem dJ6_bitCount_0f7a4_42 : decode cJ6_bitCount_0f7a4 42 = .ok (.iload_n 0, 1) := by decide +kernel
theorem dJ6_bitCount_0f7a4_43 : decode cJ6_bitCount_0f7a4 43 = .ok (.bipush 16, 2) := by decide +kernel
theorem dJ6_bitCount_0f7a4_45 : decode cJ6_bitCount_0f7a4 45 = .ok (.iushr, 1) := by decide +kernel
theorem dJ6_bitCount_0f7a4_46 : decode cJ6_bitCount_0f7a4 46 = .ok (.iadd, 1) := by decide +kernel
theorem dJ6_bitCount_0f7a4_47 : decode cJ6_bitCount_0f7a4 47 = .ok (.istore_n 0, 1) := by decide +kernel
theorem dJ6_bitCount_0f7a4_48 : decode cJ6_bitCount_0f7a4 48 = .ok (.iload_n 0, 1) := by decide +kernel
theorem dJ6_bitCount_0f7a4_49 : decode cJ6_bitCount_0f7a4 49 = .ok (.bipush 63, 2) := by decide +kernel
theorem dJ6_bitCount_0f7a4_51 : decode cJ6_bitCount_0f7a4 51 = .ok (.iand, 1) := by decide +kernel
theorem dJ6_bitCount_0f7a4_52 : decode cJ6_bitCount_0f7a4 52 = .ok (.ireturn, 1) := by decide +kernel
theorem dJ9_max_7cf53_0 : decode cJ9_max_7cf53 0 = .ok (.iload_n 0, 1) := by decide +kernel
theorem dJ9_max_7cf53_1 : decode cJ9_max_7cf53 1 = .ok (.iload_n 1, 1) := by decide +kernel
theorem dJ9_max_7cf53_2 : decode cJ9_max_7cf53 2 = .ok (.if_icmp .lt 7, 3) := by decide +kernel
theorem dJ9_max_7cf53_5 : decode cJ9_max_7cf53 5 = .ok (.iload_n 0, 1) := by decide +kernel
theorem dJ9_max_7cf53_6 : decode cJ9_max_7cf53 6 = .ok (.goto 4, 3) := by decide +kernel
theorem dJ9_max_7cf53_9 : decode cJ9_max_7cf53 9 = .ok (.iload_n 1, 1) := by decide +kernel
theorem dJ9_max_7cf53_10 : decode cJ9_max_7cf53 10 = .ok (.ireturn, 1) := by decide +kernel
theorem dJ9_max_f86c9_0 : decode cJ9_max_f86c9 0 = .ok (.lload_n 0, 1) := by decide +kernel
theorem dJ9_max_f86c9_1 : decode cJ9_max_f86c9 1 = .ok (.lload_n 2, 1) := by decide +kernel
theorem dJ9_max_f86c9_2 : decode cJ9_max_f86c9 2 = .ok (.lcmp, 1) := by decide +kernel
theorem dJ9_max_f86c9_3 : decode cJ9_max_f86c9 3 = .ok (.ifCond .lt 7, 3) := by decide +kernel
theorem dJ9_max_f86c9_6 : decode cJ9_max_f86c9 6 = .ok (.lload_n 0, 1) := by decide +kernel
theorem dJ9_max_f86c9_7 : decode cJ9_max_f86c9 7 = .ok (.goto 4, 3) := by decide +kernel
theorem dJ9_max_f86c9_10 : decode cJ9_max_f86c9 10 = .ok (.lload_n 2, 1) := by decide +kernel
theorem dJ9_max_f86c9_11 : decode cJ9_max_f86c9 11 = .ok (.lreturn, 1) := by decide +kernel
theorem dJ9_min_7cf53_0 : decode cJ9_min_7cf53 0 = .ok (.iload_n 0, 1) := by decide +kernel
theorem dJ9_min_7cf53_1 : decode cJ9_min_7cf53 1 = .ok (.iload_n 1, 1) := by decide +kernel
theorem dJ9_min_7cf53_2 : decode cJ9_min_7cf53 2 = .ok (.if_icmp .gt 7, 3) := by decide +kernel
theorem dJ9_min_7cf53_5 : decode cJ9_min_7cf53 5 = .ok (.iload_n 0, 1) := by decide +kernel
theorem dJ9_min_7cf53_6 : decode cJ9_min_7cf53 6 = .ok (.goto 4, 3) := by decide +kernel
theorem dJ9_min_7cf53_9 : decode cJ9_min_7cf53 9 = .ok (.iload_n 1, 1) := by decide +kernel
theorem dJ9_min_7cf53_10 : decode cJ9_min_7cf53 10 = .ok (.ireturn, 1) := by decide +kernel
theorem dJ9_min_f86c9_0 : decode cJ9_min_f86c9 0 = .ok (.lload_n 0, 1) := by decide +kernel
theorem dJ9_min_f86c9_1 : decode cJ9_min_f86c9 1 = .ok (.lload_n 2, 1) := by decide +kernel
theorem dJ9_min_f86c9_2 : decode cJ9_min_f86c9 2 = .ok (.lcmp, 1) := by decide +kernel
theorem dJ9_min_f86c9_3 : decode cJ9_min_f86c9 3 = .ok (.ifCond .gt 7, 3) := by decide +kernel
theorem dJ9_min_f86c9_6 : decode cJ9_min_f86c9 6 = .ok (.lload_n 0, 1) := by decide +kernel
theorem dJ9_min_f86c9_7 : decode cJ9_min_f86c9 7 = .ok (.goto 4, 3) := by decide +kernel
theorem dJ9_min_f86c9_10 : decode cJ9_min_f86c9 10 = .ok (.lload_n 2, 1) := by decide +kernel
theorem dJ9_min_f86c9_11 : decode cJ9_min_f86c9 11 = .ok (.lreturn, 1) := by decide +kernel
theorem dJ7_fill_d0a16_0 : decode cJ7_fill_d0a16 0 = .ok (.iconst 0, 1) := by decide +kernel
theorem dJ7_fill_d0a16_1 : decode cJ7_fill_d0a16 1 = .ok (.istore_n 3, 1) := by decide +kernel
theorem dJ7_fill_d0a16_2 : decode cJ7_fill_d0a16 2 = .ok (.aload_n 0, 1) := by decide +kernel
theorem dJ7_fill_d0a16_3 : decode cJ7_fill_d0a16 3 = .ok (.arraylength, 1) := by decide +kernel
theorem dJ7_fill_d0a16_4 : decode cJ7_fill_d0a16 4 = .ok (.istore 4, 2) := by decide +kernel
theorem dJ7_fill_d0a16_6 : decode cJ7_fill_d0a16 6 = .ok (.iload_n 3, 1) := by decide +kernel
theorem dJ7_fill_d0a16_7 : decode cJ7_fill_d0a16 7 = .ok (.iload 4, 2) := by decide +kernel
theorem dJ7_fill_d0a16_9 : decode cJ7_fill_d0a16 9 = .ok (.if_icmp .ge 13, 3) := by decide +kernel
theorem dJ7_fill_d0a16_12 : decode cJ7_fill_d0a16 12 = .ok (.aload_n 0, 1) := by decide +kernel
theorem dJ7_fill_d0a16_13 : decode cJ7_fill_d0a16 13 = .ok (.iload_n 3, 1) := by decide +kernel
theorem dJ7_fill_d0a16_14 : decode cJ7_fill_d0a16 14 = .ok (.lload_n 1, 1) := by decide +kernel
theorem dJ7_fill_d0a16_15 : decode cJ7_fill_d0a16 15 = .ok (.lastore, 1) := by decide +kernel
theorem dJ7_fill_d0a16_16 : decode cJ7_fill_d0a16 16 = .ok (.iinc 3 1, 3) := by decide +kernel
theorem dJ7_fill_d0a16_19 : decode cJ7_fill_d0a16 19 = .ok (.goto (-13), 3) := by decide +kernel
theorem dJ7_fill_d0a16_22 : decode cJ7_fill_d0a16 22 = .ok (.return_, 1) := by decide +kernel
theorem dJ7_fill_53178_0 : decode cJ7_fill_53178 0 = .ok (.iconst 0, 1) := by decide +kernel
theorem dJ7_fill_53178_1 : decode cJ7_fill_53178 1 = .ok (.istore_n 2, 1) := by decide +kernel
theorem dJ7_fill_53178_2 : decode cJ7_fill_53178 2 = .ok (.aload_n 0, 1) := by decide +kernel
theorem dJ7_fill_53178_3 : decode cJ7_fill_53178 3 = .ok (.arraylength, 1) := by decide +kernel
theorem dJ7_fill_53178_4 : decode cJ7_fill_53178 4 = .ok (.istore_n 3, 1) := by decide +kernel
theorem dJ7_fill_53178_5 : decode cJ7_fill_53178 5 = .ok (.iload_n 2, 1) := by decide +kernel
theorem dJ7_fill_53178_6 : decode cJ7_fill_53178 6 = .ok (.iload_n 3, 1) := by decide +kernel
theorem dJ7_fill_53178_7 : decode cJ7_fill_53178 7 = .ok (.if_icmp .ge 13, 3) := by decide +kernel
theorem dJ7_fill_53178_10 : decode cJ7_fill_53178 10 = .ok (.aload_n 0, 1) := by decide +kernel
theorem dJ7_fill_53178_11 : decode cJ7_fill_53178 11 = .ok (.iload_n 2, 1) := by decide +kernel
theorem dJ7_fill_53178_12 : decode cJ7_fill_53178 12 = .ok (.iload_n 1, 1) := by decide +kernel
theorem dJ7_fill_53178_13 : decode cJ7_fill_53178 13 = .ok (.iastore, 1) := by decide +kernel
theorem dJ7_fill_53178_14 : decode cJ7_fill_53178 14 = .ok (.iinc 2 1, 3) := by decide +kernel
theorem dJ7_fill_53178_17 : decode cJ7_fill_53178 17 = .ok (.goto (-12), 3) := by decide +kernel
theorem dJ7_fill_53178_20 : decode cJ7_fill_53178 20 = .ok (.return_, 1) := by decide +kernel
