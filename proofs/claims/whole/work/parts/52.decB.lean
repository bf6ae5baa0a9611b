/-! instructions of the class, second -/
theorem dX6_init_0 : decode cX6_init 0 = .ok (.aload_n 0, 1) := by decide +kernel
theorem dX6_init_1 : decode cX6_init 1 = .ok (.invokespecial 3, 3) := by decide +kernel
theorem dX6_init_4 : decode cX6_init 4 = .ok (.aload_n 0, 1) := by decide +kernel
theorem dX6_init_5 : decode cX6_init 5 = .ok (.new 9, 3) := by decide +kernel
theorem dX6_init_8 : decode cX6_init 8 = .ok (.dup, 1) := by decide +kernel
theorem dX6_init_9 : decode cX6_init 9 = .ok (.sipush 400, 3) := by decide +kernel
theorem dX6_init_12 : decode cX6_init 12 = .ok (.invokespecial 11, 3) := by decide +kernel
theorem dX6_init_15 : decode cX6_init 15 = .ok (.putfield 14, 3) := by decide +kernel
theorem dX6_init_18 : decode cX6_init 18 = .ok (.aload_n 0, 1) := by decide +kernel
theorem dX6_init_19 : decode cX6_init 19 = .ok (.bipush 27, 2) := by decide +kernel
theorem dX6_init_21 : decode cX6_init 21 = .ok (.newarray .int, 2) := by decide +kernel
theorem dX6_init_23 : decode cX6_init 23 = .ok (.putfield 20, 3) := by decide +kernel
theorem dX6_init_26 : decode cX6_init 26 = .ok (.aload_n 0, 1) := by decide +kernel
theorem dX6_init_27 : decode cX6_init 27 = .ok (.sipush 401, 3) := by decide +kernel
theorem dX6_init_30 : decode cX6_init 30 = .ok (.newarray .int, 2) := by decide +kernel
theorem dX6_init_32 : decode cX6_init 32 = .ok (.putfield 24, 3) := by decide +kernel
theorem dX6_init_35 : decode cX6_init 35 = .ok (.aload_n 0, 1) := by decide +kernel
theorem dX6_init_36 : decode cX6_init 36 = .ok (.sipush 401, 3) := by decide +kernel
theorem dX6_init_39 : decode cX6_init 39 = .ok (.newarray .int, 2) := by decide +kernel
theorem dX6_init_41 : decode cX6_init 41 = .ok (.putfield 27, 3) := by decide +kernel
theorem dX6_init_44 : decode cX6_init 44 = .ok (.aload_n 0, 1) := by decide +kernel
theorem dX6_init_45 : decode cX6_init 45 = .ok (.sipush 401, 3) := by decide +kernel
theorem dX6_init_48 : decode cX6_init 48 = .ok (.newarray .int, 2) := by decide +kernel
theorem dX6_init_50 : decode cX6_init 50 = .ok (.putfield 30, 3) := by decide +kernel
theorem dX6_init_53 : decode cX6_init 53 = .ok (.aload_n 0, 1) := by decide +kernel
theorem dX6_init_54 : decode cX6_init 54 = .ok (.invokevirtual 33, 3) := by decide +kernel
theorem dX6_init_57 : decode cX6_init 57 = .ok (.return_, 1) := by decide +kernel
theorem dX6_learnWords_0 : decode cX6_learnWords 0 = .ok (.iconst 0, 1) := by decide +kernel
theorem dX6_learnWords_1 : decode cX6_learnWords 1 = .ok (.istore_n 1, 1) := by decide +kernel
theorem dX6_learnWords_2 : decode cX6_learnWords 2 = .ok (.iconst 0, 1) := by decide +kernel
theorem dX6_learnWords_3 : decode cX6_learnWords 3 = .ok (.istore_n 2, 1) := by decide +kernel
theorem dX6_learnWords_4 : decode cX6_learnWords 4 = .ok (.iload_n 2, 1) := by decide +kernel
theorem dX6_learnWords_5 : decode cX6_learnWords 5 = .ok (.ldc 36, 2) := by decide +kernel
theorem dX6_learnWords_7 : decode cX6_learnWords 7 = .ok (.invokevirtual 38, 3) := by decide +kernel
theorem dX6_learnWords_10 : decode cX6_learnWords 10 = .ok (.if_icmp .ge 50, 3) := by decide +kernel
theorem dX6_learnWords_13 : decode cX6_learnWords 13 = .ok (.iload_n 1, 1) := by decide +kernel
theorem dX6_learnWords_14 : decode cX6_learnWords 14 = .ok (.bipush 27, 2) := by decide +kernel
theorem dX6_learnWords_16 : decode cX6_learnWords 16 = .ok (.if_icmp .ge 44, 3) := by decide +kernel
theorem dX6_learnWords_19 : decode cX6_learnWords 19 = .ok (.ldc 36, 2) := by decide +kernel
theorem dX6_learnWords_21 : decode cX6_learnWords 21 = .ok (.iload_n 2, 1) := by decide +kernel
theorem dX6_learnWords_22 : decode cX6_learnWords 22 = .ok (.invokevirtual 44, 3) := by decide +kernel
theorem dX6_learnWords_25 : decode cX6_learnWords 25 = .ok (.istore_n 3, 1) := by decide +kernel
theorem dX6_learnWords_26 : decode cX6_learnWords 26 = .ok (.iload_n 3, 1) := by decide +kernel
theorem dX6_learnWords_27 : decode cX6_learnWords 27 = .ok (.bipush 32, 2) := by decide +kernel
theorem dX6_learnWords_29 : decode cX6_learnWords 29 = .ok (.if_icmp .ne 9, 3) := by decide +kernel
theorem dX6_learnWords_32 : decode cX6_learnWords 32 = .ok (.iinc 1 1, 3) := by decide +kernel
theorem dX6_learnWords_35 : decode cX6_learnWords 35 = .ok (.goto 19, 3) := by decide +kernel
theorem dX6_learnWords_38 : decode cX6_learnWords 38 = .ok (.aload_n 0, 1) := by decide +kernel
theorem dX6_learnWords_39 : decode cX6_learnWords 39 = .ok (.getfield 20, 3) := by decide +kernel
theorem dX6_learnWords_42 : decode cX6_learnWords 42 = .ok (.iload_n 1, 1) := by decide +kernel
theorem dX6_learnWords_43 : decode cX6_learnWords 43 = .ok (.aload_n 0, 1) := by decide +kernel
theorem dX6_learnWords_44 : decode cX6_learnWords 44 = .ok (.getfield 20, 3) := by decide +kernel
theorem dX6_learnWords_47 : decode cX6_learnWords 47 = .ok (.iload_n 1, 1) := by decide +kernel
theorem dX6_learnWords_48 : decode cX6_learnWords 48 = .ok (.iaload, 1) := by decide +kernel
theorem dX6_learnWords_49 : decode cX6_learnWords 49 = .ok (.iload_n 3, 1) := by decide +kernel
theorem dX6_learnWords_50 : decode cX6_learnWords 50 = .ok (.invokestatic 48, 3) := by decide +kernel
theorem dX6_learnWords_53 : decode cX6_learnWords 53 = .ok (.iastore, 1) := by decide +kernel
theorem dX6_learnWords_54 : decode cX6_learnWords 54 = .ok (.iinc 2 1, 3) := by decide +kernel
theorem dX6_learnWords_57 : decode cX6_learnWords 57 = .ok (.goto (-53), 3) := by decide +kernel
theorem dX6_learnWords_60 : decode cX6_learnWords 60 = .ok (.return_, 1) := by decide +kernel
theorem dX6_withLetter_0 : decode cX6_withLetter 0 = .ok (.iload_n 0, 1) := by decide +kernel
theorem dX6_withLetter_1 : decode cX6_withLetter 1 = .ok (.bipush 32, 2) := by decide +kernel
theorem dX6_withLetter_3 : decode cX6_withLetter 3 = .ok (.imul, 1) := by decide +kernel
theorem dX6_withLetter_4 : decode cX6_withLetter 4 = .ok (.iload_n 1, 1) := by decide +kernel
theorem dX6_withLetter_5 : decode cX6_withLetter 5 = .ok (.iadd, 1) := by decide +kernel
theorem dX6_withLetter_6 : decode cX6_withLetter 6 = .ok (.bipush 97, 2) := by decide +kernel
theorem dX6_withLetter_8 : decode cX6_withLetter 8 = .ok (.isub, 1) := by decide +kernel
theorem dX6_withLetter_9 : decode cX6_withLetter 9 = .ok (.iconst 1, 1) := by decide +kernel
theorem dX6_withLetter_10 : decode cX6_withLetter 10 = .ok (.iadd, 1) := by decide +kernel
theorem dX6_withLetter_11 : decode cX6_withLetter 11 = .ok (.ireturn, 1) := by decide +kernel
theorem dX6_read_0 : decode cX6_read 0 = .ok (.aload_n 0, 1) := by decide +kernel
theorem dX6_read_1 : decode cX6_read 1 = .ok (.iload_n 2, 1) := by decide +kernel
theorem dX6_read_2 : decode cX6_read 2 = .ok (.putfield 52, 3) := by decide +kernel
theorem dX6_read_5 : decode cX6_read 5 = .ok (.aload_n 0, 1) := by decide +kernel
theorem dX6_read_6 : decode cX6_read 6 = .ok (.aload_n 1, 1) := by decide +kernel
theorem dX6_read_7 : decode cX6_read 7 = .ok (.invokevirtual 56, 3) := by decide +kernel
theorem dX6_read_10 : decode cX6_read 10 = .ok (.aload_n 1, 1) := by decide +kernel
theorem dX6_read_11 : decode cX6_read 11 = .ok (.iconst 0, 1) := by decide +kernel
theorem dX6_read_12 : decode cX6_read 12 = .ok (.putfield 60, 3) := by decide +kernel
theorem dX6_read_15 : decode cX6_read 15 = .ok (.aload_n 0, 1) := by decide +kernel
theorem dX6_read_16 : decode cX6_read 16 = .ok (.getfield 14, 3) := by decide +kernel
theorem dX6_read_19 : decode cX6_read 19 = .ok (.invokevirtual 66, 3) := by decide +kernel
theorem dX6_read_22 : decode cX6_read 22 = .ok (.aload_n 0, 1) := by decide +kernel
theorem dX6_read_23 : decode cX6_read 23 = .ok (.iconst 0, 1) := by decide +kernel
theorem dX6_read_24 : decode cX6_read 24 = .ok (.putfield 69, 3) := by decide +kernel
theorem dX6_read_27 : decode cX6_read 27 = .ok (.aload_n 0, 1) := by decide +kernel
theorem dX6_read_28 : decode cX6_read 28 = .ok (.iconst 0, 1) := by decide +kernel
theorem dX6_read_29 : decode cX6_read 29 = .ok (.putfield 72, 3) := by decide +kernel
theorem dX6_read_32 : decode cX6_read 32 = .ok (.iconst 1, 1) := by decide +kernel
theorem dX6_read_33 : decode cX6_read 33 = .ok (.istore_n 3, 1) := by decide +kernel
theorem dX6_read_34 : decode cX6_read 34 = .ok (.iconst 0, 1) := by decide +kernel
theorem dX6_read_35 : decode cX6_read 35 = .ok (.istore 4, 2) := by decide +kernel
theorem dX6_read_37 : decode cX6_read 37 = .ok (.iload 4, 2) := by decide +kernel
theorem dX6_read_39 : decode cX6_read 39 = .ok (.bipush 12, 2) := by decide +kernel
theorem dX6_read_41 : decode cX6_read 41 = .ok (.if_icmp .ge 56, 3) := by decide +kernel
theorem dX6_read_44 : decode cX6_read 44 = .ok (.iload_n 3, 1) := by decide +kernel
theorem dX6_read_45 : decode cX6_read 45 = .ok (.ifCond .eq 52, 3) := by decide +kernel
theorem dX6_read_48 : decode cX6_read 48 = .ok (.aload_n 0, 1) := by decide +kernel
theorem dX6_read_49 : decode cX6_read 49 = .ok (.invokevirtual 75, 3) := by decide +kernel
theorem dX6_read_52 : decode cX6_read 52 = .ok (.istore 5, 2) := by decide +kernel
theorem dX6_read_54 : decode cX6_read 54 = .ok (.iload 5, 2) := by decide +kernel
theorem dX6_read_56 : decode cX6_read 56 = .ok (.ifCond .eq 15, 3) := by decide +kernel
theorem dX6_read_59 : decode cX6_read 59 = .ok (.aload_n 0, 1) := by decide +kernel
theorem dX6_read_60 : decode cX6_read 60 = .ok (.invokevirtual 79, 3) := by decide +kernel
theorem dX6_read_63 : decode cX6_read 63 = .ok (.sipush 301, 3) := by decide +kernel
theorem dX6_read_66 : decode cX6_read 66 = .ok (.if_icmp .ne 5, 3) := by decide +kernel
theorem dX6_read_69 : decode cX6_read 69 = .ok (.iconst (-1), 1) := by decide +kernel
theorem dX6_read_70 : decode cX6_read 70 = .ok (.ireturn, 1) := by decide +kernel
theorem dX6_read_71 : decode cX6_read 71 = .ok (.iload 5, 2) := by decide +kernel
theorem dX6_read_73 : decode cX6_read 73 = .ok (.ifCond .eq 16, 3) := by decide +kernel
theorem dX6_read_76 : decode cX6_read 76 = .ok (.aload_n 0, 1) := by decide +kernel
theorem dX6_read_77 : decode cX6_read 77 = .ok (.bipush 59, 2) := by decide +kernel
theorem dX6_read_79 : decode cX6_read 79 = .ok (.invokevirtual 82, 3) := by decide +kernel
theorem dX6_read_82 : decode cX6_read 82 = .ok (.ifCond .eq 7, 3) := by decide +kernel
theorem dX6_read_85 : decode cX6_read 85 = .ok (.iconst 1, 1) := by decide +kernel
theorem dX6_read_86 : decode cX6_read 86 = .ok (.goto 4, 3) := by decide +kernel
theorem dX6_read_89 : decode cX6_read 89 = .ok (.iconst 0, 1) := by decide +kernel
theorem dX6_read_90 : decode cX6_read 90 = .ok (.istore_n 3, 1) := by decide +kernel
theorem dX6_read_91 : decode cX6_read 91 = .ok (.iinc 4 1, 3) := by decide +kernel
theorem dX6_read_94 : decode cX6_read 94 = .ok (.goto (-57), 3) := by decide +kernel
theorem dX6_read_97 : decode cX6_read 97 = .ok (.aload_n 0, 1) := by decide +kernel
theorem dX6_read_98 : decode cX6_read 98 = .ok (.getfield 69, 3) := by decide +kernel
theorem dX6_read_101 : decode cX6_read 101 = .ok (.aload_n 0, 1) := by decide +kernel
theorem dX6_read_102 : decode cX6_read 102 = .ok (.getfield 86, 3) := by decide +kernel
theorem dX6_read_105 : decode cX6_read 105 = .ok (.if_icmp .ge 15, 3) := by decide +kernel
theorem dX6_read_108 : decode cX6_read 108 = .ok (.aload_n 0, 1) := by decide +kernel
theorem dX6_read_109 : decode cX6_read 109 = .ok (.getfield 27, 3) := by decide +kernel
theorem dX6_read_112 : decode cX6_read 112 = .ok (.aload_n 0, 1) := by decide +kernel
theorem dX6_read_113 : decode cX6_read 113 = .ok (.getfield 69, 3) := by decide +kernel
theorem dX6_read_116 : decode cX6_read 116 = .ok (.iaload, 1) := by decide +kernel
theorem dX6_read_117 : decode cX6_read 117 = .ok (.goto 4, 3) := by decide +kernel
theorem dX6_read_120 : decode cX6_read 120 = .ok (.iconst (-1), 1) := by decide +kernel
theorem dX6_read_121 : decode cX6_read 121 = .ok (.ireturn, 1) := by decide +kernel
theorem dX6_split_0 : decode cX6_split 0 = .ok (.aload_n 0, 1) := by decide +kernel
theorem dX6_split_1 : decode cX6_split 1 = .ok (.iconst 0, 1) := by decide +kernel
theorem dX6_split_2 : decode cX6_split 2 = .ok (.putfield 86, 3) := by decide +kernel
theorem dX6_split_5 : decode cX6_split 5 = .ok (.iconst 0, 1) := by decide +kernel
theorem dX6_split_6 : decode cX6_split 6 = .ok (.istore_n 2, 1) := by decide +kernel
theorem dX6_split_7 : decode cX6_split 7 = .ok (.iconst 0, 1) := by decide +kernel
theorem dX6_split_8 : decode cX6_split 8 = .ok (.istore_n 3, 1) := by decide +kernel
theorem dX6_split_9 : decode cX6_split 9 = .ok (.iconst 0, 1) := by decide +kernel
theorem dX6_split_10 : decode cX6_split 10 = .ok (.istore 4, 2) := by decide +kernel
theorem dX6_split_12 : decode cX6_split 12 = .ok (.iload 4, 2) := by decide +kernel
theorem dX6_split_14 : decode cX6_split 14 = .ok (.aload_n 1, 1) := by decide +kernel
theorem dX6_split_15 : decode cX6_split 15 = .ok (.getfield 60, 3) := by decide +kernel
theorem dX6_split_18 : decode cX6_split 18 = .ok (.if_icmp .ge 130, 3) := by decide +kernel
theorem dX6_split_21 : decode cX6_split 21 = .ok (.aload_n 1, 1) := by decide +kernel
theorem dX6_split_22 : decode cX6_split 22 = .ok (.iload 4, 2) := by decide +kernel
theorem dX6_split_24 : decode cX6_split 24 = .ok (.invokevirtual 89, 3) := by decide +kernel
theorem dX6_split_27 : decode cX6_split 27 = .ok (.istore 5, 2) := by decide +kernel
theorem dX6_split_29 : decode cX6_split 29 = .ok (.iload 5, 2) := by decide +kernel
theorem dX6_split_31 : decode cX6_split 31 = .ok (.invokestatic 93, 3) := by decide +kernel
theorem dX6_split_34 : decode cX6_split 34 = .ok (.istore 6, 2) := by decide +kernel
theorem dX6_split_36 : decode cX6_split 36 = .ok (.iload 6, 2) := by decide +kernel
theorem dX6_split_38 : decode cX6_split 38 = .ok (.iload_n 2, 1) := by decide +kernel
theorem dX6_split_39 : decode cX6_split 39 = .ok (.if_icmp .ne 19, 3) := by decide +kernel
theorem dX6_split_42 : decode cX6_split 42 = .ok (.iload 6, 2) := by decide +kernel
theorem dX6_split_44 : decode cX6_split 44 = .ok (.iconst 1, 1) := by decide +kernel
theorem dX6_split_45 : decode cX6_split 45 = .ok (.if_icmp .eq 9, 3) := by decide +kernel
theorem dX6_split_48 : decode cX6_split 48 = .ok (.iload 6, 2) := by decide +kernel
theorem dX6_split_50 : decode cX6_split 50 = .ok (.iconst 2, 1) := by decide +kernel
theorem dX6_split_51 : decode cX6_split 51 = .ok (.if_icmp .ne 7, 3) := by decide +kernel
theorem dX6_split_54 : decode cX6_split 54 = .ok (.iconst 1, 1) := by decide +kernel
theorem dX6_split_55 : decode cX6_split 55 = .ok (.goto 4, 3) := by decide +kernel
theorem dX6_split_58 : decode cX6_split 58 = .ok (.iconst 0, 1) := by decide +kernel
theorem dX6_split_59 : decode cX6_split 59 = .ok (.istore 7, 2) := by decide +kernel
theorem dX6_split_61 : decode cX6_split 61 = .ok (.iload 6, 2) := by decide +kernel
theorem dX6_split_63 : decode cX6_split 63 = .ok (.ifCond .eq 42, 3) := by decide +kernel
theorem dX6_split_66 : decode cX6_split 66 = .ok (.iload 7, 2) := by decide +kernel
theorem dX6_split_68 : decode cX6_split 68 = .ok (.ifCond .ne 37, 3) := by decide +kernel
theorem dX6_split_71 : decode cX6_split 71 = .ok (.aload_n 0, 1) := by decide +kernel
theorem dX6_split_72 : decode cX6_split 72 = .ok (.iload 6, 2) := by decide +kernel
theorem dX6_split_74 : decode cX6_split 74 = .ok (.iconst 3, 1) := by decide +kernel
theorem dX6_split_75 : decode cX6_split 75 = .ok (.if_icmp .ne 8, 3) := by decide +kernel
theorem dX6_split_78 : decode cX6_split 78 = .ok (.iload 5, 2) := by decide +kernel
theorem dX6_split_80 : decode cX6_split 80 = .ok (.goto 18, 3) := by decide +kernel
theorem dX6_split_83 : decode cX6_split 83 = .ok (.iload 6, 2) := by decide +kernel
theorem dX6_split_85 : decode cX6_split 85 = .ok (.iconst 2, 1) := by decide +kernel
theorem dX6_split_86 : decode cX6_split 86 = .ok (.if_icmp .ne 9, 3) := by decide +kernel
theorem dX6_split_89 : decode cX6_split 89 = .ok (.sipush 300, 3) := by decide +kernel
theorem dX6_split_92 : decode cX6_split 92 = .ok (.goto 6, 3) := by decide +kernel
theorem dX6_split_95 : decode cX6_split 95 = .ok (.sipush 302, 3) := by decide +kernel
theorem dX6_split_98 : decode cX6_split 98 = .ok (.iload 4, 2) := by decide +kernel
theorem dX6_split_100 : decode cX6_split 100 = .ok (.invokevirtual 96, 3) := by decide +kernel
theorem dX6_split_103 : decode cX6_split 103 = .ok (.iconst 0, 1) := by decide +kernel
theorem dX6_split_104 : decode cX6_split 104 = .ok (.istore_n 3, 1) := by decide +kernel
theorem dX6_split_105 : decode cX6_split 105 = .ok (.iload 6, 2) := by decide +kernel
theorem dX6_split_107 : decode cX6_split 107 = .ok (.iconst 1, 1) := by decide +kernel
theorem dX6_split_108 : decode cX6_split 108 = .ok (.if_icmp .ne 16, 3) := by decide +kernel
theorem dX6_split_111 : decode cX6_split 111 = .ok (.iinc 3 1, 3) := by decide +kernel
theorem dX6_split_114 : decode cX6_split 114 = .ok (.aload_n 0, 1) := by decide +kernel
theorem dX6_split_115 : decode cX6_split 115 = .ok (.iload 5, 2) := by decide +kernel
theorem dX6_split_117 : decode cX6_split 117 = .ok (.iload_n 3, 1) := by decide +kernel
theorem dX6_split_118 : decode cX6_split 118 = .ok (.invokevirtual 100, 3) := by decide +kernel
theorem dX6_split_121 : decode cX6_split 121 = .ok (.goto 18, 3) := by decide +kernel
theorem dX6_split_124 : decode cX6_split 124 = .ok (.iload 6, 2) := by decide +kernel
theorem dX6_split_126 : decode cX6_split 126 = .ok (.iconst 2, 1) := by decide +kernel
theorem dX6_split_127 : decode cX6_split 127 = .ok (.if_icmp .ne 12, 3) := by decide +kernel
theorem dX6_split_130 : decode cX6_split 130 = .ok (.aload_n 0, 1) := by decide +kernel
theorem dX6_split_131 : decode cX6_split 131 = .ok (.iload 5, 2) := by decide +kernel
theorem dX6_split_133 : decode cX6_split 133 = .ok (.bipush 48, 2) := by decide +kernel
theorem dX6_split_135 : decode cX6_split 135 = .ok (.isub, 1) := by decide +kernel
theorem dX6_split_136 : decode cX6_split 136 = .ok (.invokevirtual 103, 3) := by decide +kernel
theorem dX6_split_139 : decode cX6_split 139 = .ok (.iload 6, 2) := by decide +kernel
theorem dX6_split_141 : decode cX6_split 141 = .ok (.istore_n 2, 1) := by decide +kernel
theorem dX6_split_142 : decode cX6_split 142 = .ok (.iinc 4 1, 3) := by decide +kernel
theorem dX6_split_145 : decode cX6_split 145 = .ok (.goto (-133), 3) := by decide +kernel
theorem dX6_split_148 : decode cX6_split 148 = .ok (.aload_n 0, 1) := by decide +kernel
theorem dX6_split_149 : decode cX6_split 149 = .ok (.sipush 301, 3) := by decide +kernel
theorem dX6_split_152 : decode cX6_split 152 = .ok (.aload_n 1, 1) := by decide +kernel
theorem dX6_split_153 : decode cX6_split 153 = .ok (.getfield 60, 3) := by decide +kernel
theorem dX6_split_156 : decode cX6_split 156 = .ok (.invokevirtual 96, 3) := by decide +kernel
theorem dX6_split_159 : decode cX6_split 159 = .ok (.return_, 1) := by decide +kernel
theorem dX6_sortOf_0 : decode cX6_sortOf 0 = .ok (.iload_n 0, 1) := by decide +kernel
theorem dX6_sortOf_1 : decode cX6_sortOf 1 = .ok (.bipush 32, 2) := by decide +kernel
theorem dX6_sortOf_3 : decode cX6_sortOf 3 = .ok (.if_icmp .ne 5, 3) := by decide +kernel
theorem dX6_sortOf_6 : decode cX6_sortOf 6 = .ok (.iconst 0, 1) := by decide +kernel
theorem dX6_sortOf_7 : decode cX6_sortOf 7 = .ok (.ireturn, 1) := by decide +kernel
theorem dX6_sortOf_8 : decode cX6_sortOf 8 = .ok (.iload_n 0, 1) := by decide +kernel
theorem dX6_sortOf_9 : decode cX6_sortOf 9 = .ok (.bipush 97, 2) := by decide +kernel
theorem dX6_sortOf_11 : decode cX6_sortOf 11 = .ok (.if_icmp .lt 11, 3) := by decide +kernel
theorem dX6_sortOf_14 : decode cX6_sortOf 14 = .ok (.iload_n 0, 1) := by decide +kernel
theorem dX6_sortOf_15 : decode cX6_sortOf 15 = .ok (.bipush 122, 2) := by decide +kernel
theorem dX6_sortOf_17 : decode cX6_sortOf 17 = .ok (.if_icmp .gt 5, 3) := by decide +kernel
theorem dX6_sortOf_20 : decode cX6_sortOf 20 = .ok (.iconst 1, 1) := by decide +kernel
theorem dX6_sortOf_21 : decode cX6_sortOf 21 = .ok (.ireturn, 1) := by decide +kernel
theorem dX6_sortOf_22 : decode cX6_sortOf 22 = .ok (.iload_n 0, 1) := by decide +kernel
theorem dX6_sortOf_23 : decode cX6_sortOf 23 = .ok (.bipush 48, 2) := by decide +kernel
theorem dX6_sortOf_25 : decode cX6_sortOf 25 = .ok (.if_icmp .lt 13, 3) := by decide +kernel
theorem dX6_sortOf_28 : decode cX6_sortOf 28 = .ok (.iload_n 0, 1) := by decide +kernel
theorem dX6_sortOf_29 : decode cX6_sortOf 29 = .ok (.bipush 57, 2) := by decide +kernel
theorem dX6_sortOf_31 : decode cX6_sortOf 31 = .ok (.if_icmp .gt 7, 3) := by decide +kernel
theorem dX6_sortOf_34 : decode cX6_sortOf 34 = .ok (.iconst 2, 1) := by decide +kernel
theorem dX6_sortOf_35 : decode cX6_sortOf 35 = .ok (.goto 4, 3) := by decide +kernel
theorem dX6_sortOf_38 : decode cX6_sortOf 38 = .ok (.iconst 3, 1) := by decide +kernel
theorem dX6_sortOf_39 : decode cX6_sortOf 39 = .ok (.ireturn, 1) := by decide +kernel
theorem dX6_addToken_0 : decode cX6_addToken 0 = .ok (.aload_n 0, 1) := by decide +kernel
theorem dX6_addToken_1 : decode cX6_addToken 1 = .ok (.getfield 86, 3) := by decide +kernel
theorem dX6_addToken_4 : decode cX6_addToken 4 = .ok (.aload_n 0, 1) := by decide +kernel
theorem dX6_addToken_5 : decode cX6_addToken 5 = .ok (.getfield 24, 3) := by decide +kernel
theorem dX6_addToken_8 : decode cX6_addToken 8 = .ok (.arraylength, 1) := by decide +kernel
theorem dX6_addToken_9 : decode cX6_addToken 9 = .ok (.if_icmp .ge 43, 3) := by decide +kernel
theorem dX6_addToken_12 : decode cX6_addToken 12 = .ok (.aload_n 0, 1) := by decide +kernel
theorem dX6_addToken_13 : decode cX6_addToken 13 = .ok (.getfield 24, 3) := by decide +kernel
theorem dX6_addToken_16 : decode cX6_addToken 16 = .ok (.aload_n 0, 1) := by decide +kernel
theorem dX6_addToken_17 : decode cX6_addToken 17 = .ok (.getfield 86, 3) := by decide +kernel
theorem dX6_addToken_20 : decode cX6_addToken 20 = .ok (.iload_n 1, 1) := by decide +kernel
theorem dX6_addToken_21 : decode cX6_addToken 21 = .ok (.iastore, 1) := by decide +kernel
theorem dX6_addToken_22 : decode cX6_addToken 22 = .ok (.aload_n 0, 1) := by decide +kernel
theorem dX6_addToken_23 : decode cX6_addToken 23 = .ok (.getfield 27, 3) := by decide +kernel
theorem dX6_addToken_26 : decode cX6_addToken 26 = .ok (.aload_n 0, 1) := by decide +kernel
theorem dX6_addToken_27 : decode cX6_addToken 27 = .ok (.getfield 86, 3) := by decide +kernel
theorem dX6_addToken_30 : decode cX6_addToken 30 = .ok (.iload_n 2, 1) := by decide +kernel
theorem dX6_addToken_31 : decode cX6_addToken 31 = .ok (.iastore, 1) := by decide +kernel
theorem dX6_addToken_32 : decode cX6_addToken 32 = .ok (.aload_n 0, 1) := by decide +kernel
theorem dX6_addToken_33 : decode cX6_addToken 33 = .ok (.getfield 30, 3) := by decide +kernel
theorem dX6_addToken_36 : decode cX6_addToken 36 = .ok (.aload_n 0, 1) := by decide +kernel
theorem dX6_addToken_37 : decode cX6_addToken 37 = .ok (.getfield 86, 3) := by decide +kernel
theorem dX6_addToken_40 : decode cX6_addToken 40 = .ok (.iconst 0, 1) := by decide +kernel
theorem dX6_addToken_41 : decode cX6_addToken 41 = .ok (.iastore, 1) := by decide +kernel
theorem dX6_addToken_42 : decode cX6_addToken 42 = .ok (.aload_n 0, 1) := by decide +kernel
theorem dX6_addToken_43 : decode cX6_addToken 43 = .ok (.dup, 1) := by decide +kernel
theorem dX6_addToken_44 : decode cX6_addToken 44 = .ok (.getfield 86, 3) := by decide +kernel
theorem dX6_addToken_47 : decode cX6_addToken 47 = .ok (.iconst 1, 1) := by decide +kernel
theorem dX6_addToken_48 : decode cX6_addToken 48 = .ok (.iadd, 1) := by decide +kernel
theorem dX6_addToken_49 : decode cX6_addToken 49 = .ok (.putfield 86, 3) := by decide +kernel
theorem dX6_addToken_52 : decode cX6_addToken 52 = .ok (.return_, 1) := by decide +kernel
theorem dX6_addDigit_0 : decode cX6_addDigit 0 = .ok (.aload_n 0, 1) := by decide +kernel
theorem dX6_addDigit_1 : decode cX6_addDigit 1 = .ok (.getfield 86, 3) := by decide +kernel
theorem dX6_addDigit_4 : decode cX6_addDigit 4 = .ok (.ifCond .le 32, 3) := by decide +kernel
theorem dX6_addDigit_7 : decode cX6_addDigit 7 = .ok (.aload_n 0, 1) := by decide +kernel
theorem dX6_addDigit_8 : decode cX6_addDigit 8 = .ok (.getfield 86, 3) := by decide +kernel
theorem dX6_addDigit_11 : decode cX6_addDigit 11 = .ok (.iconst 1, 1) := by decide +kernel
theorem dX6_addDigit_12 : decode cX6_addDigit 12 = .ok (.isub, 1) := by decide +kernel
theorem dX6_addDigit_13 : decode cX6_addDigit 13 = .ok (.istore_n 2, 1) := by decide +kernel
theorem dX6_addDigit_14 : decode cX6_addDigit 14 = .ok (.aload_n 0, 1) := by decide +kernel
theorem dX6_addDigit_15 : decode cX6_addDigit 15 = .ok (.getfield 30, 3) := by decide +kernel
theorem dX6_addDigit_18 : decode cX6_addDigit 18 = .ok (.iload_n 2, 1) := by decide +kernel
theorem dX6_addDigit_19 : decode cX6_addDigit 19 = .ok (.ldc 106, 2) := by decide +kernel
theorem dX6_addDigit_21 : decode cX6_addDigit 21 = .ok (.aload_n 0, 1) := by decide +kernel
theorem dX6_addDigit_22 : decode cX6_addDigit 22 = .ok (.getfield 30, 3) := by decide +kernel
theorem dX6_addDigit_25 : decode cX6_addDigit 25 = .ok (.iload_n 2, 1) := by decide +kernel
theorem dX6_addDigit_26 : decode cX6_addDigit 26 = .ok (.iaload, 1) := by decide +kernel
theorem dX6_addDigit_27 : decode cX6_addDigit 27 = .ok (.bipush 10, 2) := by decide +kernel
theorem dX6_addDigit_29 : decode cX6_addDigit 29 = .ok (.imul, 1) := by decide +kernel
theorem dX6_addDigit_30 : decode cX6_addDigit 30 = .ok (.iload_n 1, 1) := by decide +kernel
theorem dX6_addDigit_31 : decode cX6_addDigit 31 = .ok (.iadd, 1) := by decide +kernel
theorem dX6_addDigit_32 : decode cX6_addDigit 32 = .ok (.invokestatic 107, 3) := by decide +kernel
theorem dX6_addDigit_35 : decode cX6_addDigit 35 = .ok (.iastore, 1) := by decide +kernel
theorem dX6_addDigit_36 : decode cX6_addDigit 36 = .ok (.return_, 1) := by decide +kernel
theorem dX6_addLetter_0 : decode cX6_addLetter 0 = .ok (.aload_n 0, 1) := by decide +kernel
theorem dX6_addLetter_1 : decode cX6_addLetter 1 = .ok (.getfield 86, 3) := by decide +kernel
theorem dX6_addLetter_4 : decode cX6_addLetter 4 = .ok (.ifCond .le 60, 3) := by decide +kernel
theorem dX6_addLetter_7 : decode cX6_addLetter 7 = .ok (.aload_n 0, 1) := by decide +kernel
theorem dX6_addLetter_8 : decode cX6_addLetter 8 = .ok (.getfield 86, 3) := by decide +kernel
theorem dX6_addLetter_11 : decode cX6_addLetter 11 = .ok (.iconst 1, 1) := by decide +kernel
theorem dX6_addLetter_12 : decode cX6_addLetter 12 = .ok (.isub, 1) := by decide +kernel
theorem dX6_addLetter_13 : decode cX6_addLetter 13 = .ok (.istore_n 3, 1) := by decide +kernel
theorem dX6_addLetter_14 : decode cX6_addLetter 14 = .ok (.iload_n 2, 1) := by decide +kernel
theorem dX6_addLetter_15 : decode cX6_addLetter 15 = .ok (.bipush 6, 2) := by decide +kernel
theorem dX6_addLetter_17 : decode cX6_addLetter 17 = .ok (.if_icmp .gt 38, 3) := by decide +kernel
theorem dX6_addLetter_20 : decode cX6_addLetter 20 = .ok (.aload_n 0, 1) := by decide +kernel
theorem dX6_addLetter_21 : decode cX6_addLetter 21 = .ok (.getfield 30, 3) := by decide +kernel
theorem dX6_addLetter_24 : decode cX6_addLetter 24 = .ok (.iload_n 3, 1) := by decide +kernel
theorem dX6_addLetter_25 : decode cX6_addLetter 25 = .ok (.aload_n 0, 1) := by decide +kernel
theorem dX6_addLetter_26 : decode cX6_addLetter 26 = .ok (.getfield 30, 3) := by decide +kernel
theorem dX6_addLetter_29 : decode cX6_addLetter 29 = .ok (.iload_n 3, 1) := by decide +kernel
theorem dX6_addLetter_30 : decode cX6_addLetter 30 = .ok (.iaload, 1) := by decide +kernel
theorem dX6_addLetter_31 : decode cX6_addLetter 31 = .ok (.iload_n 1, 1) := by decide +kernel
theorem dX6_addLetter_32 : decode cX6_addLetter 32 = .ok (.invokestatic 48, 3) := by decide +kernel
theorem dX6_addLetter_35 : decode cX6_addLetter 35 = .ok (.iastore, 1) := by decide +kernel
theorem dX6_addLetter_36 : decode cX6_addLetter 36 = .ok (.aload_n 0, 1) := by decide +kernel
theorem dX6_addLetter_37 : decode cX6_addLetter 37 = .ok (.getfield 24, 3) := by decide +kernel
theorem dX6_addLetter_40 : decode cX6_addLetter 40 = .ok (.iload_n 3, 1) := by decide +kernel
theorem dX6_addLetter_41 : decode cX6_addLetter 41 = .ok (.aload_n 0, 1) := by decide +kernel
theorem dX6_addLetter_42 : decode cX6_addLetter 42 = .ok (.aload_n 0, 1) := by decide +kernel
theorem dX6_addLetter_43 : decode cX6_addLetter 43 = .ok (.getfield 30, 3) := by decide +kernel
theorem dX6_addLetter_46 : decode cX6_addLetter 46 = .ok (.iload_n 3, 1) := by decide +kernel
theorem dX6_addLetter_47 : decode cX6_addLetter 47 = .ok (.iaload, 1) := by decide +kernel
theorem dX6_addLetter_48 : decode cX6_addLetter 48 = .ok (.invokevirtual 112, 3) := by decide +kernel
theorem dX6_addLetter_51 : decode cX6_addLetter 51 = .ok (.iastore, 1) := by decide +kernel
theorem dX6_addLetter_52 : decode cX6_addLetter 52 = .ok (.goto 12, 3) := by decide +kernel
theorem dX6_addLetter_55 : decode cX6_addLetter 55 = .ok (.aload_n 0, 1) := by decide +kernel
theorem dX6_addLetter_56 : decode cX6_addLetter 56 = .ok (.getfield 24, 3) := by decide +kernel
theorem dX6_addLetter_59 : decode cX6_addLetter 59 = .ok (.iload_n 3, 1) := by decide +kernel
theorem dX6_addLetter_60 : decode cX6_addLetter 60 = .ok (.sipush 302, 3) := by decide +kernel
theorem dX6_addLetter_63 : decode cX6_addLetter 63 = .ok (.iastore, 1) := by decide +kernel
theorem dX6_addLetter_64 : decode cX6_addLetter 64 = .ok (.return_, 1) := by decide +kernel
theorem dX6_wordOf_0 : decode cX6_wordOf 0 = .ok (.iconst 0, 1) := by decide +kernel
theorem dX6_wordOf_1 : decode cX6_wordOf 1 = .ok (.istore_n 2, 1) := by decide +kernel
theorem dX6_wordOf_2 : decode cX6_wordOf 2 = .ok (.iload_n 2, 1) := by decide +kernel
theorem dX6_wordOf_3 : decode cX6_wordOf 3 = .ok (.bipush 27, 2) := by decide +kernel
theorem dX6_wordOf_5 : decode cX6_wordOf 5 = .ok (.if_icmp .ge 25, 3) := by decide +kernel
theorem dX6_wordOf_8 : decode cX6_wordOf 8 = .ok (.aload_n 0, 1) := by decide +kernel
theorem dX6_wordOf_9 : decode cX6_wordOf 9 = .ok (.getfield 20, 3) := by decide +kernel
theorem dX6_wordOf_12 : decode cX6_wordOf 12 = .ok (.iload_n 2, 1) := by decide +kernel
theorem dX6_wordOf_13 : decode cX6_wordOf 13 = .ok (.iaload, 1) := by decide +kernel
theorem dX6_wordOf_14 : decode cX6_wordOf 14 = .ok (.iload_n 1, 1) := by decide +kernel
theorem dX6_wordOf_15 : decode cX6_wordOf 15 = .ok (.if_icmp .ne 9, 3) := by decide +kernel
theorem dX6_wordOf_18 : decode cX6_wordOf 18 = .ok (.sipush 256, 3) := by decide +kernel
theorem dX6_wordOf_21 : decode cX6_wordOf 21 = .ok (.iload_n 2, 1) := by decide +kernel
theorem dX6_wordOf_22 : decode cX6_wordOf 22 = .ok (.iadd, 1) := by decide +kernel
theorem dX6_wordOf_23 : decode cX6_wordOf 23 = .ok (.ireturn, 1) := by decide +kernel
theorem dX6_wordOf_24 : decode cX6_wordOf 24 = .ok (.iinc 2 1, 3) := by decide +kernel
theorem dX6_wordOf_27 : decode cX6_wordOf 27 = .ok (.goto (-25), 3) := by decide +kernel
theorem dX6_wordOf_30 : decode cX6_wordOf 30 = .ok (.sipush 302, 3) := by decide +kernel
theorem dX6_wordOf_33 : decode cX6_wordOf 33 = .ok (.ireturn, 1) := by decide +kernel
theorem dX6_kindNow_0 : decode cX6_kindNow 0 = .ok (.aload_n 0, 1) := by decide +kernel
theorem dX6_kindNow_1 : decode cX6_kindNow 1 = .ok (.getfield 69, 3) := by decide +kernel
theorem dX6_kindNow_4 : decode cX6_kindNow 4 = .ok (.aload_n 0, 1) := by decide +kernel
theorem dX6_kindNow_5 : decode cX6_kindNow 5 = .ok (.getfield 86, 3) := by decide +kernel
theorem dX6_kindNow_8 : decode cX6_kindNow 8 = .ok (.if_icmp .ge 15, 3) := by decide +kernel
theorem dX6_kindNow_11 : decode cX6_kindNow 11 = .ok (.aload_n 0, 1) := by decide +kernel
theorem dX6_kindNow_12 : decode cX6_kindNow 12 = .ok (.getfield 24, 3) := by decide +kernel
theorem dX6_kindNow_15 : decode cX6_kindNow 15 = .ok (.aload_n 0, 1) := by decide +kernel
theorem dX6_kindNow_16 : decode cX6_kindNow 16 = .ok (.getfield 69, 3) := by decide +kernel
theorem dX6_kindNow_19 : decode cX6_kindNow 19 = .ok (.iaload, 1) := by decide +kernel
theorem dX6_kindNow_20 : decode cX6_kindNow 20 = .ok (.goto 6, 3) := by decide +kernel
theorem dX6_kindNow_23 : decode cX6_kindNow 23 = .ok (.sipush 301, 3) := by decide +kernel
theorem dX6_kindNow_26 : decode cX6_kindNow 26 = .ok (.ireturn, 1) := by decide +kernel
theorem dX6_takes_0 : decode cX6_takes 0 = .ok (.aload_n 0, 1) := by decide +kernel
theorem dX6_takes_1 : decode cX6_takes 1 = .ok (.getfield 69, 3) := by decide +kernel
theorem dX6_takes_4 : decode cX6_takes 4 = .ok (.iconst 1, 1) := by decide +kernel
theorem dX6_takes_5 : decode cX6_takes 5 = .ok (.iadd, 1) := by decide +kernel
theorem dX6_takes_6 : decode cX6_takes 6 = .ok (.aload_n 0, 1) := by decide +kernel
theorem dX6_takes_7 : decode cX6_takes 7 = .ok (.getfield 86, 3) := by decide +kernel
theorem dX6_takes_10 : decode cX6_takes 10 = .ok (.if_icmp .ge 16, 3) := by decide +kernel
theorem dX6_takes_13 : decode cX6_takes 13 = .ok (.aload_n 0, 1) := by decide +kernel
theorem dX6_takes_14 : decode cX6_takes 14 = .ok (.getfield 24, 3) := by decide +kernel
theorem dX6_takes_17 : decode cX6_takes 17 = .ok (.aload_n 0, 1) := by decide +kernel
theorem dX6_takes_18 : decode cX6_takes 18 = .ok (.getfield 69, 3) := by decide +kernel
theorem dX6_takes_21 : decode cX6_takes 21 = .ok (.iaload, 1) := by decide +kernel
theorem dX6_takes_22 : decode cX6_takes 22 = .ok (.iload_n 1, 1) := by decide +kernel
theorem dX6_takes_23 : decode cX6_takes 23 = .ok (.if_icmp .eq 5, 3) := by decide +kernel
theorem dX6_takes_26 : decode cX6_takes 26 = .ok (.iconst 0, 1) := by decide +kernel
theorem dX6_takes_27 : decode cX6_takes 27 = .ok (.ireturn, 1) := by decide +kernel
theorem dX6_takes_28 : decode cX6_takes 28 = .ok (.aload_n 0, 1) := by decide +kernel
theorem dX6_takes_29 : decode cX6_takes 29 = .ok (.dup, 1) := by decide +kernel
theorem dX6_takes_30 : decode cX6_takes 30 = .ok (.getfield 69, 3) := by decide +kernel
theorem dX6_takes_33 : decode cX6_takes 33 = .ok (.iconst 1, 1) := by decide +kernel
theorem dX6_takes_34 : decode cX6_takes 34 = .ok (.iadd, 1) := by decide +kernel
theorem dX6_takes_35 : decode cX6_takes 35 = .ok (.putfield 69, 3) := by decide +kernel
theorem dX6_takes_38 : decode cX6_takes 38 = .ok (.iconst 1, 1) := by decide +kernel
theorem dX6_takes_39 : decode cX6_takes 39 = .ok (.ireturn, 1) := by decide +kernel
theorem dX6_takeNumber_0 : decode cX6_takeNumber 0 = .ok (.aload_n 0, 1) := by decide +kernel
theorem dX6_takeNumber_1 : decode cX6_takeNumber 1 = .ok (.invokevirtual 79, 3) := by decide +kernel
theorem dX6_takeNumber_4 : decode cX6_takeNumber 4 = .ok (.sipush 300, 3) := by decide +kernel
theorem dX6_takeNumber_7 : decode cX6_takeNumber 7 = .ok (.if_icmp .ne 29, 3) := by decide +kernel
theorem dX6_takeNumber_10 : decode cX6_takeNumber 10 = .ok (.aload_n 0, 1) := by decide +kernel
theorem dX6_takeNumber_11 : decode cX6_takeNumber 11 = .ok (.getfield 30, 3) := by decide +kernel
theorem dX6_takeNumber_14 : decode cX6_takeNumber 14 = .ok (.aload_n 0, 1) := by decide +kernel
theorem dX6_takeNumber_15 : decode cX6_takeNumber 15 = .ok (.getfield 69, 3) := by decide +kernel
theorem dX6_takeNumber_18 : decode cX6_takeNumber 18 = .ok (.iaload, 1) := by decide +kernel
theorem dX6_takeNumber_19 : decode cX6_takeNumber 19 = .ok (.iload_n 1, 1) := by decide +kernel
theorem dX6_takeNumber_20 : decode cX6_takeNumber 20 = .ok (.if_icmp .lt 16, 3) := by decide +kernel
theorem dX6_takeNumber_23 : decode cX6_takeNumber 23 = .ok (.aload_n 0, 1) := by decide +kernel
theorem dX6_takeNumber_24 : decode cX6_takeNumber 24 = .ok (.getfield 30, 3) := by decide +kernel
theorem dX6_takeNumber_27 : decode cX6_takeNumber 27 = .ok (.aload_n 0, 1) := by decide +kernel
theorem dX6_takeNumber_28 : decode cX6_takeNumber 28 = .ok (.getfield 69, 3) := by decide +kernel
theorem dX6_takeNumber_31 : decode cX6_takeNumber 31 = .ok (.iaload, 1) := by decide +kernel
theorem dX6_takeNumber_32 : decode cX6_takeNumber 32 = .ok (.iload_n 2, 1) := by decide +kernel
theorem dX6_takeNumber_33 : decode cX6_takeNumber 33 = .ok (.if_icmp .le 5, 3) := by decide +kernel
theorem dX6_takeNumber_36 : decode cX6_takeNumber 36 = .ok (.iconst (-1), 1) := by decide +kernel
theorem dX6_takeNumber_37 : decode cX6_takeNumber 37 = .ok (.ireturn, 1) := by decide +kernel
theorem dX6_takeNumber_38 : decode cX6_takeNumber 38 = .ok (.aload_n 0, 1) := by decide +kernel
theorem dX6_takeNumber_39 : decode cX6_takeNumber 39 = .ok (.getfield 30, 3) := by decide +kernel
theorem dX6_takeNumber_42 : decode cX6_takeNumber 42 = .ok (.aload_n 0, 1) := by decide +kernel
theorem dX6_takeNumber_43 : decode cX6_takeNumber 43 = .ok (.getfield 69, 3) := by decide +kernel
theorem dX6_takeNumber_46 : decode cX6_takeNumber 46 = .ok (.iaload, 1) := by decide +kernel
theorem dX6_takeNumber_47 : decode cX6_takeNumber 47 = .ok (.istore_n 3, 1) := by decide +kernel
theorem dX6_takeNumber_48 : decode cX6_takeNumber 48 = .ok (.aload_n 0, 1) := by decide +kernel
theorem dX6_takeNumber_49 : decode cX6_takeNumber 49 = .ok (.dup, 1) := by decide +kernel
theorem dX6_takeNumber_50 : decode cX6_takeNumber 50 = .ok (.getfield 69, 3) := by decide +kernel
theorem dX6_takeNumber_53 : decode cX6_takeNumber 53 = .ok (.iconst 1, 1) := by decide +kernel
theorem dX6_takeNumber_54 : decode cX6_takeNumber 54 = .ok (.iadd, 1) := by decide +kernel
theorem dX6_takeNumber_55 : decode cX6_takeNumber 55 = .ok (.putfield 69, 3) := by decide +kernel
theorem dX6_takeNumber_58 : decode cX6_takeNumber 58 = .ok (.iload_n 3, 1) := by decide +kernel
theorem dX6_takeNumber_59 : decode cX6_takeNumber 59 = .ok (.ireturn, 1) := by decide +kernel
theorem dX6_hasClause_0 : decode cX6_hasClause 0 = .ok (.aload_n 0, 1) := by decide +kernel
theorem dX6_hasClause_1 : decode cX6_hasClause 1 = .ok (.invokevirtual 79, 3) := by decide +kernel
theorem dX6_hasClause_4 : decode cX6_hasClause 4 = .ok (.istore_n 1, 1) := by decide +kernel
theorem dX6_hasClause_5 : decode cX6_hasClause 5 = .ok (.aload_n 0, 1) := by decide +kernel
theorem dX6_hasClause_6 : decode cX6_hasClause 6 = .ok (.getfield 52, 3) := by decide +kernel
theorem dX6_hasClause_9 : decode cX6_hasClause 9 = .ok (.ifCond .eq 11, 3) := by decide +kernel
theorem dX6_hasClause_12 : decode cX6_hasClause 12 = .ok (.aload_n 0, 1) := by decide +kernel
theorem dX6_hasClause_13 : decode cX6_hasClause 13 = .ok (.iload_n 1, 1) := by decide +kernel
theorem dX6_hasClause_14 : decode cX6_hasClause 14 = .ok (.invokevirtual 115, 3) := by decide +kernel
theorem dX6_hasClause_17 : decode cX6_hasClause 17 = .ok (.goto 8, 3) := by decide +kernel
theorem dX6_hasClause_20 : decode cX6_hasClause 20 = .ok (.aload_n 0, 1) := by decide +kernel
theorem dX6_hasClause_21 : decode cX6_hasClause 21 = .ok (.iload_n 1, 1) := by decide +kernel
theorem dX6_hasClause_22 : decode cX6_hasClause 22 = .ok (.invokevirtual 118, 3) := by decide +kernel
theorem dX6_hasClause_25 : decode cX6_hasClause 25 = .ok (.istore_n 2, 1) := by decide +kernel
theorem dX6_hasClause_26 : decode cX6_hasClause 26 = .ok (.iload_n 2, 1) := by decide +kernel
theorem dX6_hasClause_27 : decode cX6_hasClause 27 = .ok (.ifCond .eq 21, 3) := by decide +kernel
theorem dX6_hasClause_30 : decode cX6_hasClause 30 = .ok (.aload_n 0, 1) := by decide +kernel
theorem dX6_hasClause_31 : decode cX6_hasClause 31 = .ok (.sipush 259, 3) := by decide +kernel
theorem dX6_hasClause_34 : decode cX6_hasClause 34 = .ok (.invokevirtual 82, 3) := by decide +kernel
theorem dX6_hasClause_37 : decode cX6_hasClause 37 = .ok (.ifCond .eq 13, 3) := by decide +kernel
theorem dX6_hasClause_40 : decode cX6_hasClause 40 = .ok (.aload_n 0, 1) := by decide +kernel
theorem dX6_hasClause_41 : decode cX6_hasClause 41 = .ok (.iconst 0, 1) := by decide +kernel
theorem dX6_hasClause_42 : decode cX6_hasClause 42 = .ok (.invokevirtual 121, 3) := by decide +kernel
theorem dX6_hasClause_45 : decode cX6_hasClause 45 = .ok (.ifCond .ne 5, 3) := by decide +kernel
theorem dX6_hasClause_48 : decode cX6_hasClause 48 = .ok (.iconst 0, 1) := by decide +kernel
theorem dX6_hasClause_49 : decode cX6_hasClause 49 = .ok (.ireturn, 1) := by decide +kernel
theorem dX6_hasClause_50 : decode cX6_hasClause 50 = .ok (.aload_n 0, 1) := by decide +kernel
theorem dX6_hasClause_51 : decode cX6_hasClause 51 = .ok (.getfield 14, 3) := by decide +kernel
theorem dX6_hasClause_54 : decode cX6_hasClause 54 = .ok (.invokevirtual 124, 3) := by decide +kernel
theorem dX6_hasClause_57 : decode cX6_hasClause 57 = .ok (.iconst 1, 1) := by decide +kernel
theorem dX6_hasClause_58 : decode cX6_hasClause 58 = .ok (.ireturn, 1) := by decide +kernel
theorem dX6_hasLawDoing_0 : decode cX6_hasLawDoing 0 = .ok (.iload_n 1, 1) := by decide +kernel
theorem dX6_hasLawDoing_1 : decode cX6_hasLawDoing 1 = .ok (.sipush 263, 3) := by decide +kernel
theorem dX6_hasLawDoing_4 : decode cX6_hasLawDoing 4 = .ok (.if_icmp .lt 10, 3) := by decide +kernel
theorem dX6_hasLawDoing_7 : decode cX6_hasLawDoing 7 = .ok (.iload_n 1, 1) := by decide +kernel
theorem dX6_hasLawDoing_8 : decode cX6_hasLawDoing 8 = .ok (.sipush 266, 3) := by decide +kernel
theorem dX6_hasLawDoing_11 : decode cX6_hasLawDoing 11 = .ok (.if_icmp .le 5, 3) := by decide +kernel
theorem dX6_hasLawDoing_14 : decode cX6_hasLawDoing 14 = .ok (.iconst 0, 1) := by decide +kernel
theorem dX6_hasLawDoing_15 : decode cX6_hasLawDoing 15 = .ok (.ireturn, 1) := by decide +kernel
theorem dX6_hasLawDoing_16 : decode cX6_hasLawDoing 16 = .ok (.aload_n 0, 1) := by decide +kernel
theorem dX6_hasLawDoing_17 : decode cX6_hasLawDoing 17 = .ok (.dup, 1) := by decide +kernel
theorem dX6_hasLawDoing_18 : decode cX6_hasLawDoing 18 = .ok (.getfield 69, 3) := by decide +kernel
theorem dX6_hasLawDoing_21 : decode cX6_hasLawDoing 21 = .ok (.iconst 1, 1) := by decide +kernel
theorem dX6_hasLawDoing_22 : decode cX6_hasLawDoing 22 = .ok (.iadd, 1) := by decide +kernel
theorem dX6_hasLawDoing_23 : decode cX6_hasLawDoing 23 = .ok (.putfield 69, 3) := by decide +kernel
theorem dX6_hasLawDoing_26 : decode cX6_hasLawDoing 26 = .ok (.aload_n 0, 1) := by decide +kernel
theorem dX6_hasLawDoing_27 : decode cX6_hasLawDoing 27 = .ok (.getfield 14, 3) := by decide +kernel
theorem dX6_hasLawDoing_30 : decode cX6_hasLawDoing 30 = .ok (.iload_n 1, 1) := by decide +kernel
theorem dX6_hasLawDoing_31 : decode cX6_hasLawDoing 31 = .ok (.invokevirtual 127, 3) := by decide +kernel
theorem dX6_hasLawDoing_34 : decode cX6_hasLawDoing 34 = .ok (.iload_n 1, 1) := by decide +kernel
theorem dX6_hasLawDoing_35 : decode cX6_hasLawDoing 35 = .ok (.sipush 266, 3) := by decide +kernel
theorem dX6_hasLawDoing_38 : decode cX6_hasLawDoing 38 = .ok (.if_icmp .eq 13, 3) := by decide +kernel
theorem dX6_hasLawDoing_41 : decode cX6_hasLawDoing 41 = .ok (.aload_n 0, 1) := by decide +kernel
theorem dX6_hasLawDoing_42 : decode cX6_hasLawDoing 42 = .ok (.iconst 0, 1) := by decide +kernel
theorem dX6_hasLawDoing_43 : decode cX6_hasLawDoing 43 = .ok (.invokevirtual 130, 3) := by decide +kernel
theorem dX6_hasLawDoing_46 : decode cX6_hasLawDoing 46 = .ok (.ifCond .ne 5, 3) := by decide +kernel
theorem dX6_hasLawDoing_49 : decode cX6_hasLawDoing 49 = .ok (.iconst 0, 1) := by decide +kernel
theorem dX6_hasLawDoing_50 : decode cX6_hasLawDoing 50 = .ok (.ireturn, 1) := by decide +kernel
theorem dX6_hasLawDoing_51 : decode cX6_hasLawDoing 51 = .ok (.aload_n 0, 1) := by decide +kernel
theorem dX6_hasLawDoing_52 : decode cX6_hasLawDoing 52 = .ok (.getfield 14, 3) := by decide +kernel
theorem dX6_hasLawDoing_55 : decode cX6_hasLawDoing 55 = .ok (.invokevirtual 124, 3) := by decide +kernel
theorem dX6_hasLawDoing_58 : decode cX6_hasLawDoing 58 = .ok (.aload_n 0, 1) := by decide +kernel
theorem dX6_hasLawDoing_59 : decode cX6_hasLawDoing 59 = .ok (.getfield 14, 3) := by decide +kernel
theorem dX6_hasLawDoing_62 : decode cX6_hasLawDoing 62 = .ok (.invokevirtual 124, 3) := by decide +kernel
theorem dX6_hasLawDoing_65 : decode cX6_hasLawDoing 65 = .ok (.iconst 1, 1) := by decide +kernel
theorem dX6_hasLawDoing_66 : decode cX6_hasLawDoing 66 = .ok (.ireturn, 1) := by decide +kernel
theorem dX6_hasOrderDoing_0 : decode cX6_hasOrderDoing 0 = .ok (.iload_n 1, 1) := by decide +kernel
theorem dX6_hasOrderDoing_1 : decode cX6_hasOrderDoing 1 = .ok (.sipush 267, 3) := by decide +kernel
theorem dX6_hasOrderDoing_4 : decode cX6_hasOrderDoing 4 = .ok (.if_icmp .lt 10, 3) := by decide +kernel
theorem dX6_hasOrderDoing_7 : decode cX6_hasOrderDoing 7 = .ok (.iload_n 1, 1) := by decide +kernel
theorem dX6_hasOrderDoing_8 : decode cX6_hasOrderDoing 8 = .ok (.sipush 270, 3) := by decide +kernel
theorem dX6_hasOrderDoing_11 : decode cX6_hasOrderDoing 11 = .ok (.if_icmp .le 5, 3) := by decide +kernel
theorem dX6_hasOrderDoing_14 : decode cX6_hasOrderDoing 14 = .ok (.iconst 0, 1) := by decide +kernel
theorem dX6_hasOrderDoing_15 : decode cX6_hasOrderDoing 15 = .ok (.ireturn, 1) := by decide +kernel
theorem dX6_hasOrderDoing_16 : decode cX6_hasOrderDoing 16 = .ok (.aload_n 0, 1) := by decide +kernel
theorem dX6_hasOrderDoing_17 : decode cX6_hasOrderDoing 17 = .ok (.dup, 1) := by decide +kernel
theorem dX6_hasOrderDoing_18 : decode cX6_hasOrderDoing 18 = .ok (.getfield 69, 3) := by decide +kernel
theorem dX6_hasOrderDoing_21 : decode cX6_hasOrderDoing 21 = .ok (.iconst 1, 1) := by decide +kernel
theorem dX6_hasOrderDoing_22 : decode cX6_hasOrderDoing 22 = .ok (.iadd, 1) := by decide +kernel
theorem dX6_hasOrderDoing_23 : decode cX6_hasOrderDoing 23 = .ok (.putfield 69, 3) := by decide +kernel
theorem dX6_hasOrderDoing_26 : decode cX6_hasOrderDoing 26 = .ok (.aload_n 0, 1) := by decide +kernel
theorem dX6_hasOrderDoing_27 : decode cX6_hasOrderDoing 27 = .ok (.getfield 14, 3) := by decide +kernel
theorem dX6_hasOrderDoing_30 : decode cX6_hasOrderDoing 30 = .ok (.iload_n 1, 1) := by decide +kernel
theorem dX6_hasOrderDoing_31 : decode cX6_hasOrderDoing 31 = .ok (.sipush 267, 3) := by decide +kernel
theorem dX6_hasOrderDoing_34 : decode cX6_hasOrderDoing 34 = .ok (.isub, 1) := by decide +kernel
theorem dX6_hasOrderDoing_35 : decode cX6_hasOrderDoing 35 = .ok (.invokevirtual 127, 3) := by decide +kernel
theorem dX6_hasOrderDoing_38 : decode cX6_hasOrderDoing 38 = .ok (.iload_n 1, 1) := by decide +kernel
theorem dX6_hasOrderDoing_39 : decode cX6_hasOrderDoing 39 = .ok (.sipush 270, 3) := by decide +kernel
theorem dX6_hasOrderDoing_42 : decode cX6_hasOrderDoing 42 = .ok (.if_icmp .eq 13, 3) := by decide +kernel
theorem dX6_hasOrderDoing_45 : decode cX6_hasOrderDoing 45 = .ok (.aload_n 0, 1) := by decide +kernel
theorem dX6_hasOrderDoing_46 : decode cX6_hasOrderDoing 46 = .ok (.iconst 0, 1) := by decide +kernel
theorem dX6_hasOrderDoing_47 : decode cX6_hasOrderDoing 47 = .ok (.invokevirtual 130, 3) := by decide +kernel
theorem dX6_hasOrderDoing_50 : decode cX6_hasOrderDoing 50 = .ok (.ifCond .ne 5, 3) := by decide +kernel
theorem dX6_hasOrderDoing_53 : decode cX6_hasOrderDoing 53 = .ok (.iconst 0, 1) := by decide +kernel
theorem dX6_hasOrderDoing_54 : decode cX6_hasOrderDoing 54 = .ok (.ireturn, 1) := by decide +kernel
theorem dX6_hasOrderDoing_55 : decode cX6_hasOrderDoing 55 = .ok (.aload_n 0, 1) := by decide +kernel
theorem dX6_hasOrderDoing_56 : decode cX6_hasOrderDoing 56 = .ok (.getfield 14, 3) := by decide +kernel
theorem dX6_hasOrderDoing_59 : decode cX6_hasOrderDoing 59 = .ok (.invokevirtual 124, 3) := by decide +kernel
theorem dX6_hasOrderDoing_62 : decode cX6_hasOrderDoing 62 = .ok (.iload_n 1, 1) := by decide +kernel
theorem dX6_hasOrderDoing_63 : decode cX6_hasOrderDoing 63 = .ok (.sipush 270, 3) := by decide +kernel
theorem dX6_hasOrderDoing_66 : decode cX6_hasOrderDoing 66 = .ok (.if_icmp .eq 36, 3) := by decide +kernel
theorem dX6_hasOrderDoing_69 : decode cX6_hasOrderDoing 69 = .ok (.aload_n 0, 1) := by decide +kernel
theorem dX6_hasOrderDoing_70 : decode cX6_hasOrderDoing 70 = .ok (.iload_n 1, 1) := by decide +kernel
theorem dX6_hasOrderDoing_71 : decode cX6_hasOrderDoing 71 = .ok (.sipush 267, 3) := by decide +kernel
theorem dX6_hasOrderDoing_74 : decode cX6_hasOrderDoing 74 = .ok (.if_icmp .ne 9, 3) := by decide +kernel
theorem dX6_hasOrderDoing_77 : decode cX6_hasOrderDoing 77 = .ok (.sipush 261, 3) := by decide +kernel
theorem dX6_hasOrderDoing_80 : decode cX6_hasOrderDoing 80 = .ok (.goto 6, 3) := by decide +kernel
theorem dX6_hasOrderDoing_83 : decode cX6_hasOrderDoing 83 = .ok (.sipush 262, 3) := by decide +kernel
theorem dX6_hasOrderDoing_86 : decode cX6_hasOrderDoing 86 = .ok (.invokevirtual 82, 3) := by decide +kernel
theorem dX6_hasOrderDoing_89 : decode cX6_hasOrderDoing 89 = .ok (.ifCond .eq 11, 3) := by decide +kernel
theorem dX6_hasOrderDoing_92 : decode cX6_hasOrderDoing 92 = .ok (.aload_n 0, 1) := by decide +kernel
theorem dX6_hasOrderDoing_93 : decode cX6_hasOrderDoing 93 = .ok (.iconst 0, 1) := by decide +kernel
theorem dX6_hasOrderDoing_94 : decode cX6_hasOrderDoing 94 = .ok (.invokevirtual 130, 3) := by decide +kernel
theorem dX6_hasOrderDoing_97 : decode cX6_hasOrderDoing 97 = .ok (.ifCond .ne 5, 3) := by decide +kernel
theorem dX6_hasOrderDoing_100 : decode cX6_hasOrderDoing 100 = .ok (.iconst 0, 1) := by decide +kernel
theorem dX6_hasOrderDoing_101 : decode cX6_hasOrderDoing 101 = .ok (.ireturn, 1) := by decide +kernel
theorem dX6_hasOrderDoing_102 : decode cX6_hasOrderDoing 102 = .ok (.aload_n 0, 1) := by decide +kernel
theorem dX6_hasOrderDoing_103 : decode cX6_hasOrderDoing 103 = .ok (.getfield 14, 3) := by decide +kernel
theorem dX6_hasOrderDoing_106 : decode cX6_hasOrderDoing 106 = .ok (.invokevirtual 124, 3) := by decide +kernel
theorem dX6_hasOrderDoing_109 : decode cX6_hasOrderDoing 109 = .ok (.aload_n 0, 1) := by decide +kernel
theorem dX6_hasOrderDoing_110 : decode cX6_hasOrderDoing 110 = .ok (.sipush 260, 3) := by decide +kernel
theorem dX6_hasOrderDoing_113 : decode cX6_hasOrderDoing 113 = .ok (.invokevirtual 82, 3) := by decide +kernel
theorem dX6_hasOrderDoing_116 : decode cX6_hasOrderDoing 116 = .ok (.ifCond .eq 10, 3) := by decide +kernel
theorem dX6_hasOrderDoing_119 : decode cX6_hasOrderDoing 119 = .ok (.aload_n 0, 1) := by decide +kernel
theorem dX6_hasOrderDoing_120 : decode cX6_hasOrderDoing 120 = .ok (.invokevirtual 133, 3) := by decide +kernel
theorem dX6_hasOrderDoing_123 : decode cX6_hasOrderDoing 123 = .ok (.ifCond .eq 7, 3) := by decide +kernel
theorem dX6_hasOrderDoing_126 : decode cX6_hasOrderDoing 126 = .ok (.iconst 1, 1) := by decide +kernel
theorem dX6_hasOrderDoing_127 : decode cX6_hasOrderDoing 127 = .ok (.goto 4, 3) := by decide +kernel
theorem dX6_hasOrderDoing_130 : decode cX6_hasOrderDoing 130 = .ok (.iconst 0, 1) := by decide +kernel
theorem dX6_hasOrderDoing_131 : decode cX6_hasOrderDoing 131 = .ok (.ireturn, 1) := by decide +kernel
theorem dX6_hasTimes_0 : decode cX6_hasTimes 0 = .ok (.aload_n 0, 1) := by decide +kernel
theorem dX6_hasTimes_1 : decode cX6_hasTimes 1 = .ok (.iconst 1, 1) := by decide +kernel
theorem dX6_hasTimes_2 : decode cX6_hasTimes 2 = .ok (.bipush 20, 2) := by decide +kernel
theorem dX6_hasTimes_4 : decode cX6_hasTimes 4 = .ok (.invokevirtual 136, 3) := by decide +kernel
theorem dX6_hasTimes_7 : decode cX6_hasTimes 7 = .ok (.istore_n 1, 1) := by decide +kernel
theorem dX6_hasTimes_8 : decode cX6_hasTimes 8 = .ok (.aload_n 0, 1) := by decide +kernel
theorem dX6_hasTimes_9 : decode cX6_hasTimes 9 = .ok (.getfield 14, 3) := by decide +kernel
theorem dX6_hasTimes_12 : decode cX6_hasTimes 12 = .ok (.iload_n 1, 1) := by decide +kernel
theorem dX6_hasTimes_13 : decode cX6_hasTimes 13 = .ok (.invokevirtual 139, 3) := by decide +kernel
theorem dX6_hasTimes_16 : decode cX6_hasTimes 16 = .ok (.iload_n 1, 1) := by decide +kernel
theorem dX6_hasTimes_17 : decode cX6_hasTimes 17 = .ok (.iconst (-1), 1) := by decide +kernel
theorem dX6_hasTimes_18 : decode cX6_hasTimes 18 = .ok (.if_icmp .eq 7, 3) := by decide +kernel
theorem dX6_hasTimes_21 : decode cX6_hasTimes 21 = .ok (.iconst 1, 1) := by decide +kernel
theorem dX6_hasTimes_22 : decode cX6_hasTimes 22 = .ok (.goto 4, 3) := by decide +kernel
theorem dX6_hasTimes_25 : decode cX6_hasTimes 25 = .ok (.iconst 0, 1) := by decide +kernel
theorem dX6_hasTimes_26 : decode cX6_hasTimes 26 = .ok (.ireturn, 1) := by decide +kernel
theorem dX6_hasTest_0 : decode cX6_hasTest 0 = .ok (.aload_n 0, 1) := by decide +kernel
theorem dX6_hasTest_1 : decode cX6_hasTest 1 = .ok (.iload_n 1, 1) := by decide +kernel
theorem dX6_hasTest_2 : decode cX6_hasTest 2 = .ok (.invokevirtual 142, 3) := by decide +kernel
theorem dX6_hasTest_5 : decode cX6_hasTest 5 = .ok (.ifCond .ne 5, 3) := by decide +kernel
theorem dX6_hasTest_8 : decode cX6_hasTest 8 = .ok (.iconst 0, 1) := by decide +kernel
theorem dX6_hasTest_9 : decode cX6_hasTest 9 = .ok (.ireturn, 1) := by decide +kernel
theorem dX6_hasTest_10 : decode cX6_hasTest 10 = .ok (.iconst (-1), 1) := by decide +kernel
theorem dX6_hasTest_11 : decode cX6_hasTest 11 = .ok (.istore_n 2, 1) := by decide +kernel
theorem dX6_hasTest_12 : decode cX6_hasTest 12 = .ok (.aload_n 0, 1) := by decide +kernel
theorem dX6_hasTest_13 : decode cX6_hasTest 13 = .ok (.getfield 69, 3) := by decide +kernel
theorem dX6_hasTest_16 : decode cX6_hasTest 16 = .ok (.aload_n 0, 1) := by decide +kernel
theorem dX6_hasTest_17 : decode cX6_hasTest 17 = .ok (.getfield 86, 3) := by decide +kernel
theorem dX6_hasTest_20 : decode cX6_hasTest 20 = .ok (.if_icmp .ge 114, 3) := by decide +kernel
theorem dX6_hasTest_23 : decode cX6_hasTest 23 = .ok (.aload_n 0, 1) := by decide +kernel
theorem dX6_hasTest_24 : decode cX6_hasTest 24 = .ok (.getfield 24, 3) := by decide +kernel
theorem dX6_hasTest_27 : decode cX6_hasTest 27 = .ok (.aload_n 0, 1) := by decide +kernel
theorem dX6_hasTest_28 : decode cX6_hasTest 28 = .ok (.getfield 69, 3) := by decide +kernel
theorem dX6_hasTest_31 : decode cX6_hasTest 31 = .ok (.iaload, 1) := by decide +kernel
theorem dX6_hasTest_32 : decode cX6_hasTest 32 = .ok (.sipush 257, 3) := by decide +kernel
theorem dX6_hasTest_35 : decode cX6_hasTest 35 = .ok (.if_icmp .eq 18, 3) := by decide +kernel
theorem dX6_hasTest_38 : decode cX6_hasTest 38 = .ok (.aload_n 0, 1) := by decide +kernel
theorem dX6_hasTest_39 : decode cX6_hasTest 39 = .ok (.getfield 24, 3) := by decide +kernel
theorem dX6_hasTest_42 : decode cX6_hasTest 42 = .ok (.aload_n 0, 1) := by decide +kernel
theorem dX6_hasTest_43 : decode cX6_hasTest 43 = .ok (.getfield 69, 3) := by decide +kernel
theorem dX6_hasTest_46 : decode cX6_hasTest 46 = .ok (.iaload, 1) := by decide +kernel
theorem dX6_hasTest_47 : decode cX6_hasTest 47 = .ok (.sipush 256, 3) := by decide +kernel
theorem dX6_hasTest_50 : decode cX6_hasTest 50 = .ok (.if_icmp .ne 84, 3) := by decide +kernel
theorem dX6_hasTest_53 : decode cX6_hasTest 53 = .ok (.aload_n 0, 1) := by decide +kernel
theorem dX6_hasTest_54 : decode cX6_hasTest 54 = .ok (.getfield 24, 3) := by decide +kernel
theorem dX6_hasTest_57 : decode cX6_hasTest 57 = .ok (.aload_n 0, 1) := by decide +kernel
theorem dX6_hasTest_58 : decode cX6_hasTest 58 = .ok (.getfield 69, 3) := by decide +kernel
theorem dX6_hasTest_61 : decode cX6_hasTest 61 = .ok (.iaload, 1) := by decide +kernel
theorem dX6_hasTest_62 : decode cX6_hasTest 62 = .ok (.istore_n 3, 1) := by decide +kernel
theorem dX6_hasTest_63 : decode cX6_hasTest 63 = .ok (.iload_n 3, 1) := by decide +kernel
theorem dX6_hasTest_64 : decode cX6_hasTest 64 = .ok (.sipush 256, 3) := by decide +kernel
theorem dX6_hasTest_67 : decode cX6_hasTest 67 = .ok (.if_icmp .ne 11, 3) := by decide +kernel
theorem dX6_hasTest_70 : decode cX6_hasTest 70 = .ok (.aload_n 0, 1) := by decide +kernel
theorem dX6_hasTest_71 : decode cX6_hasTest 71 = .ok (.getfield 14, 3) := by decide +kernel
theorem dX6_hasTest_74 : decode cX6_hasTest 74 = .ok (.iload_n 2, 1) := by decide +kernel
theorem dX6_hasTest_75 : decode cX6_hasTest 75 = .ok (.invokevirtual 145, 3) := by decide +kernel
theorem dX6_hasTest_78 : decode cX6_hasTest 78 = .ok (.aload_n 0, 1) := by decide +kernel
theorem dX6_hasTest_79 : decode cX6_hasTest 79 = .ok (.getfield 14, 3) := by decide +kernel
theorem dX6_hasTest_82 : decode cX6_hasTest 82 = .ok (.iload_n 3, 1) := by decide +kernel
theorem dX6_hasTest_83 : decode cX6_hasTest 83 = .ok (.iconst 0, 1) := by decide +kernel
theorem dX6_hasTest_84 : decode cX6_hasTest 84 = .ok (.invokevirtual 148, 3) := by decide +kernel
theorem dX6_hasTest_87 : decode cX6_hasTest 87 = .ok (.istore 4, 2) := by decide +kernel
theorem dX6_hasTest_89 : decode cX6_hasTest 89 = .ok (.aload_n 0, 1) := by decide +kernel
theorem dX6_hasTest_90 : decode cX6_hasTest 90 = .ok (.dup, 1) := by decide +kernel
theorem dX6_hasTest_91 : decode cX6_hasTest 91 = .ok (.getfield 69, 3) := by decide +kernel
theorem dX6_hasTest_94 : decode cX6_hasTest 94 = .ok (.iconst 1, 1) := by decide +kernel
theorem dX6_hasTest_95 : decode cX6_hasTest 95 = .ok (.iadd, 1) := by decide +kernel
theorem dX6_hasTest_96 : decode cX6_hasTest 96 = .ok (.putfield 69, 3) := by decide +kernel
theorem dX6_hasTest_99 : decode cX6_hasTest 99 = .ok (.aload_n 0, 1) := by decide +kernel
theorem dX6_hasTest_100 : decode cX6_hasTest 100 = .ok (.iload_n 1, 1) := by decide +kernel
theorem dX6_hasTest_101 : decode cX6_hasTest 101 = .ok (.invokevirtual 142, 3) := by decide +kernel
theorem dX6_hasTest_104 : decode cX6_hasTest 104 = .ok (.ifCond .ne 5, 3) := by decide +kernel
theorem dX6_hasTest_107 : decode cX6_hasTest 107 = .ok (.iconst 0, 1) := by decide +kernel
theorem dX6_hasTest_108 : decode cX6_hasTest 108 = .ok (.ireturn, 1) := by decide +kernel
theorem dX6_hasTest_109 : decode cX6_hasTest 109 = .ok (.iload_n 3, 1) := by decide +kernel
theorem dX6_hasTest_110 : decode cX6_hasTest 110 = .ok (.sipush 256, 3) := by decide +kernel
theorem dX6_hasTest_113 : decode cX6_hasTest 113 = .ok (.if_icmp .ne 9, 3) := by decide +kernel
theorem dX6_hasTest_116 : decode cX6_hasTest 116 = .ok (.iload 4, 2) := by decide +kernel
theorem dX6_hasTest_118 : decode cX6_hasTest 118 = .ok (.istore_n 2, 1) := by decide +kernel
theorem dX6_hasTest_119 : decode cX6_hasTest 119 = .ok (.goto 12, 3) := by decide +kernel
theorem dX6_hasTest_122 : decode cX6_hasTest 122 = .ok (.aload_n 0, 1) := by decide +kernel
theorem dX6_hasTest_123 : decode cX6_hasTest 123 = .ok (.getfield 14, 3) := by decide +kernel
theorem dX6_hasTest_126 : decode cX6_hasTest 126 = .ok (.iload 4, 2) := by decide +kernel
theorem dX6_hasTest_128 : decode cX6_hasTest 128 = .ok (.invokevirtual 145, 3) := by decide +kernel
theorem dX6_hasTest_131 : decode cX6_hasTest 131 = .ok (.goto (-119), 3) := by decide +kernel
theorem dX6_hasTest_134 : decode cX6_hasTest 134 = .ok (.aload_n 0, 1) := by decide +kernel
theorem dX6_hasTest_135 : decode cX6_hasTest 135 = .ok (.getfield 14, 3) := by decide +kernel
theorem dX6_hasTest_138 : decode cX6_hasTest 138 = .ok (.iload_n 2, 1) := by decide +kernel
theorem dX6_hasTest_139 : decode cX6_hasTest 139 = .ok (.invokevirtual 145, 3) := by decide +kernel
theorem dX6_hasTest_142 : decode cX6_hasTest 142 = .ok (.iconst 1, 1) := by decide +kernel
theorem dX6_hasTest_143 : decode cX6_hasTest 143 = .ok (.ireturn, 1) := by decide +kernel
theorem dX6_hasPlain_0 : decode cX6_hasPlain 0 = .ok (.iconst 0, 1) := by decide +kernel
theorem dX6_hasPlain_1 : decode cX6_hasPlain 1 = .ok (.istore_n 2, 1) := by decide +kernel
theorem dX6_hasPlain_2 : decode cX6_hasPlain 2 = .ok (.aload_n 0, 1) := by decide +kernel
theorem dX6_hasPlain_3 : decode cX6_hasPlain 3 = .ok (.getfield 69, 3) := by decide +kernel
theorem dX6_hasPlain_6 : decode cX6_hasPlain 6 = .ok (.aload_n 0, 1) := by decide +kernel
theorem dX6_hasPlain_7 : decode cX6_hasPlain 7 = .ok (.getfield 86, 3) := by decide +kernel
theorem dX6_hasPlain_10 : decode cX6_hasPlain 10 = .ok (.if_icmp .ge 41, 3) := by decide +kernel
theorem dX6_hasPlain_13 : decode cX6_hasPlain 13 = .ok (.aload_n 0, 1) := by decide +kernel
theorem dX6_hasPlain_14 : decode cX6_hasPlain 14 = .ok (.getfield 24, 3) := by decide +kernel
theorem dX6_hasPlain_17 : decode cX6_hasPlain 17 = .ok (.aload_n 0, 1) := by decide +kernel
theorem dX6_hasPlain_18 : decode cX6_hasPlain 18 = .ok (.getfield 69, 3) := by decide +kernel
theorem dX6_hasPlain_21 : decode cX6_hasPlain 21 = .ok (.iaload, 1) := by decide +kernel
theorem dX6_hasPlain_22 : decode cX6_hasPlain 22 = .ok (.sipush 258, 3) := by decide +kernel
theorem dX6_hasPlain_25 : decode cX6_hasPlain 25 = .ok (.if_icmp .ne 26, 3) := by decide +kernel
theorem dX6_hasPlain_28 : decode cX6_hasPlain 28 = .ok (.iload_n 2, 1) := by decide +kernel
theorem dX6_hasPlain_29 : decode cX6_hasPlain 29 = .ok (.ifCond .ne 7, 3) := by decide +kernel
theorem dX6_hasPlain_32 : decode cX6_hasPlain 32 = .ok (.iconst 1, 1) := by decide +kernel
theorem dX6_hasPlain_33 : decode cX6_hasPlain 33 = .ok (.goto 4, 3) := by decide +kernel
theorem dX6_hasPlain_36 : decode cX6_hasPlain 36 = .ok (.iconst 0, 1) := by decide +kernel
theorem dX6_hasPlain_37 : decode cX6_hasPlain 37 = .ok (.istore_n 2, 1) := by decide +kernel
theorem dX6_hasPlain_38 : decode cX6_hasPlain 38 = .ok (.aload_n 0, 1) := by decide +kernel
theorem dX6_hasPlain_39 : decode cX6_hasPlain 39 = .ok (.dup, 1) := by decide +kernel
theorem dX6_hasPlain_40 : decode cX6_hasPlain 40 = .ok (.getfield 69, 3) := by decide +kernel
theorem dX6_hasPlain_43 : decode cX6_hasPlain 43 = .ok (.iconst 1, 1) := by decide +kernel
theorem dX6_hasPlain_44 : decode cX6_hasPlain 44 = .ok (.iadd, 1) := by decide +kernel
theorem dX6_hasPlain_45 : decode cX6_hasPlain 45 = .ok (.putfield 69, 3) := by decide +kernel
theorem dX6_hasPlain_48 : decode cX6_hasPlain 48 = .ok (.goto (-46), 3) := by decide +kernel
theorem dX6_hasPlain_51 : decode cX6_hasPlain 51 = .ok (.aload_n 0, 1) := by decide +kernel
theorem dX6_hasPlain_52 : decode cX6_hasPlain 52 = .ok (.invokevirtual 79, 3) := by decide +kernel
theorem dX6_hasPlain_55 : decode cX6_hasPlain 55 = .ok (.bipush 40, 2) := by decide +kernel
theorem dX6_hasPlain_57 : decode cX6_hasPlain 57 = .ok (.if_icmp .ne 13, 3) := by decide +kernel
theorem dX6_hasPlain_60 : decode cX6_hasPlain 60 = .ok (.aload_n 0, 1) := by decide +kernel
theorem dX6_hasPlain_61 : decode cX6_hasPlain 61 = .ok (.iload_n 1, 1) := by decide +kernel
theorem dX6_hasPlain_62 : decode cX6_hasPlain 62 = .ok (.bipush 41, 2) := by decide +kernel
theorem dX6_hasPlain_64 : decode cX6_hasPlain 64 = .ok (.invokevirtual 151, 3) := by decide +kernel
theorem dX6_hasPlain_67 : decode cX6_hasPlain 67 = .ok (.goto 8, 3) := by decide +kernel
theorem dX6_hasPlain_70 : decode cX6_hasPlain 70 = .ok (.aload_n 0, 1) := by decide +kernel
theorem dX6_hasPlain_71 : decode cX6_hasPlain 71 = .ok (.iload_n 1, 1) := by decide +kernel
theorem dX6_hasPlain_72 : decode cX6_hasPlain 72 = .ok (.invokevirtual 155, 3) := by decide +kernel
theorem dX6_hasPlain_75 : decode cX6_hasPlain 75 = .ok (.istore_n 3, 1) := by decide +kernel
theorem dX6_hasPlain_76 : decode cX6_hasPlain 76 = .ok (.iload_n 3, 1) := by decide +kernel
theorem dX6_hasPlain_77 : decode cX6_hasPlain 77 = .ok (.ifCond .eq 19, 3) := by decide +kernel
theorem dX6_hasPlain_80 : decode cX6_hasPlain 80 = .ok (.iload_n 2, 1) := by decide +kernel
theorem dX6_hasPlain_81 : decode cX6_hasPlain 81 = .ok (.ifCond .eq 15, 3) := by decide +kernel
theorem dX6_hasPlain_84 : decode cX6_hasPlain 84 = .ok (.aload_n 0, 1) := by decide +kernel
theorem dX6_hasPlain_85 : decode cX6_hasPlain 85 = .ok (.getfield 14, 3) := by decide +kernel
theorem dX6_hasPlain_88 : decode cX6_hasPlain 88 = .ok (.sipush 258, 3) := by decide +kernel
theorem dX6_hasPlain_91 : decode cX6_hasPlain 91 = .ok (.iconst 0, 1) := by decide +kernel
theorem dX6_hasPlain_92 : decode cX6_hasPlain 92 = .ok (.invokevirtual 148, 3) := by decide +kernel
theorem dX6_hasPlain_95 : decode cX6_hasPlain 95 = .ok (.pop, 1) := by decide +kernel
theorem dX6_hasPlain_96 : decode cX6_hasPlain 96 = .ok (.iload_n 3, 1) := by decide +kernel
theorem dX6_hasPlain_97 : decode cX6_hasPlain 97 = .ok (.ireturn, 1) := by decide +kernel
theorem dX6_hasComparison_0 : decode cX6_hasComparison 0 = .ok (.aload_n 0, 1) := by decide +kernel
theorem dX6_hasComparison_1 : decode cX6_hasComparison 1 = .ok (.iload_n 1, 1) := by decide +kernel
theorem dX6_hasComparison_2 : decode cX6_hasComparison 2 = .ok (.invokevirtual 130, 3) := by decide +kernel
theorem dX6_hasComparison_5 : decode cX6_hasComparison 5 = .ok (.ifCond .ne 5, 3) := by decide +kernel
theorem dX6_hasComparison_8 : decode cX6_hasComparison 8 = .ok (.iconst 0, 1) := by decide +kernel
theorem dX6_hasComparison_9 : decode cX6_hasComparison 9 = .ok (.ireturn, 1) := by decide +kernel
theorem dX6_hasComparison_10 : decode cX6_hasComparison 10 = .ok (.aload_n 0, 1) := by decide +kernel
theorem dX6_hasComparison_11 : decode cX6_hasComparison 11 = .ok (.invokevirtual 79, 3) := by decide +kernel
theorem dX6_hasComparison_14 : decode cX6_hasComparison 14 = .ok (.istore_n 2, 1) := by decide +kernel
theorem dX6_hasComparison_15 : decode cX6_hasComparison 15 = .ok (.iload_n 2, 1) := by decide +kernel
theorem dX6_hasComparison_16 : decode cX6_hasComparison 16 = .ok (.bipush 60, 2) := by decide +kernel
theorem dX6_hasComparison_18 : decode cX6_hasComparison 18 = .ok (.if_icmp .eq 17, 3) := by decide +kernel
theorem dX6_hasComparison_21 : decode cX6_hasComparison 21 = .ok (.iload_n 2, 1) := by decide +kernel
theorem dX6_hasComparison_22 : decode cX6_hasComparison 22 = .ok (.bipush 62, 2) := by decide +kernel
theorem dX6_hasComparison_24 : decode cX6_hasComparison 24 = .ok (.if_icmp .eq 11, 3) := by decide +kernel
theorem dX6_hasComparison_27 : decode cX6_hasComparison 27 = .ok (.iload_n 2, 1) := by decide +kernel
theorem dX6_hasComparison_28 : decode cX6_hasComparison 28 = .ok (.bipush 61, 2) := by decide +kernel
theorem dX6_hasComparison_30 : decode cX6_hasComparison 30 = .ok (.if_icmp .eq 5, 3) := by decide +kernel
theorem dX6_hasComparison_33 : decode cX6_hasComparison 33 = .ok (.iconst 0, 1) := by decide +kernel
theorem dX6_hasComparison_34 : decode cX6_hasComparison 34 = .ok (.ireturn, 1) := by decide +kernel
theorem dX6_hasComparison_35 : decode cX6_hasComparison 35 = .ok (.aload_n 0, 1) := by decide +kernel
theorem dX6_hasComparison_36 : decode cX6_hasComparison 36 = .ok (.dup, 1) := by decide +kernel
theorem dX6_hasComparison_37 : decode cX6_hasComparison 37 = .ok (.getfield 69, 3) := by decide +kernel
theorem dX6_hasComparison_40 : decode cX6_hasComparison 40 = .ok (.iconst 1, 1) := by decide +kernel
theorem dX6_hasComparison_41 : decode cX6_hasComparison 41 = .ok (.iadd, 1) := by decide +kernel
theorem dX6_hasComparison_42 : decode cX6_hasComparison 42 = .ok (.putfield 69, 3) := by decide +kernel
theorem dX6_hasComparison_45 : decode cX6_hasComparison 45 = .ok (.aload_n 0, 1) := by decide +kernel
theorem dX6_hasComparison_46 : decode cX6_hasComparison 46 = .ok (.iload_n 1, 1) := by decide +kernel
theorem dX6_hasComparison_47 : decode cX6_hasComparison 47 = .ok (.invokevirtual 130, 3) := by decide +kernel
theorem dX6_hasComparison_50 : decode cX6_hasComparison 50 = .ok (.ifCond .ne 5, 3) := by decide +kernel
theorem dX6_hasComparison_53 : decode cX6_hasComparison 53 = .ok (.iconst 0, 1) := by decide +kernel
theorem dX6_hasComparison_54 : decode cX6_hasComparison 54 = .ok (.ireturn, 1) := by decide +kernel
theorem dX6_hasComparison_55 : decode cX6_hasComparison 55 = .ok (.aload_n 0, 1) := by decide +kernel
theorem dX6_hasComparison_56 : decode cX6_hasComparison 56 = .ok (.getfield 14, 3) := by decide +kernel
theorem dX6_hasComparison_59 : decode cX6_hasComparison 59 = .ok (.iload_n 2, 1) := by decide +kernel
theorem dX6_hasComparison_60 : decode cX6_hasComparison 60 = .ok (.iconst 0, 1) := by decide +kernel
theorem dX6_hasComparison_61 : decode cX6_hasComparison 61 = .ok (.invokevirtual 148, 3) := by decide +kernel
theorem dX6_hasComparison_64 : decode cX6_hasComparison 64 = .ok (.pop, 1) := by decide +kernel
theorem dX6_hasComparison_65 : decode cX6_hasComparison 65 = .ok (.iconst 1, 1) := by decide +kernel
theorem dX6_hasComparison_66 : decode cX6_hasComparison 66 = .ok (.ireturn, 1) := by decide +kernel
theorem dX6_hasBracketed_0 : decode cX6_hasBracketed 0 = .ok (.iload_n 1, 1) := by decide +kernel
theorem dX6_hasBracketed_1 : decode cX6_hasBracketed 1 = .ok (.bipush 8, 2) := by decide +kernel
theorem dX6_hasBracketed_3 : decode cX6_hasBracketed 3 = .ok (.if_icmp .lt 5, 3) := by decide +kernel
theorem dX6_hasBracketed_6 : decode cX6_hasBracketed 6 = .ok (.iconst 0, 1) := by decide +kernel
theorem dX6_hasBracketed_7 : decode cX6_hasBracketed 7 = .ok (.ireturn, 1) := by decide +kernel
theorem dX6_hasBracketed_8 : decode cX6_hasBracketed 8 = .ok (.aload_n 0, 1) := by decide +kernel
theorem dX6_hasBracketed_9 : decode cX6_hasBracketed 9 = .ok (.dup, 1) := by decide +kernel
theorem dX6_hasBracketed_10 : decode cX6_hasBracketed 10 = .ok (.getfield 69, 3) := by decide +kernel
theorem dX6_hasBracketed_13 : decode cX6_hasBracketed 13 = .ok (.iconst 1, 1) := by decide +kernel
theorem dX6_hasBracketed_14 : decode cX6_hasBracketed 14 = .ok (.iadd, 1) := by decide +kernel
theorem dX6_hasBracketed_15 : decode cX6_hasBracketed 15 = .ok (.putfield 69, 3) := by decide +kernel
theorem dX6_hasBracketed_18 : decode cX6_hasBracketed 18 = .ok (.iload_n 2, 1) := by decide +kernel
theorem dX6_hasBracketed_19 : decode cX6_hasBracketed 19 = .ok (.bipush 41, 2) := by decide +kernel
theorem dX6_hasBracketed_21 : decode cX6_hasBracketed 21 = .ok (.if_icmp .ne 16, 3) := by decide +kernel
theorem dX6_hasBracketed_24 : decode cX6_hasBracketed 24 = .ok (.aload_n 0, 1) := by decide +kernel
theorem dX6_hasBracketed_25 : decode cX6_hasBracketed 25 = .ok (.iload_n 1, 1) := by decide +kernel
theorem dX6_hasBracketed_26 : decode cX6_hasBracketed 26 = .ok (.iconst 1, 1) := by decide +kernel
theorem dX6_hasBracketed_27 : decode cX6_hasBracketed 27 = .ok (.iadd, 1) := by decide +kernel
theorem dX6_hasBracketed_28 : decode cX6_hasBracketed 28 = .ok (.invokevirtual 121, 3) := by decide +kernel
theorem dX6_hasBracketed_31 : decode cX6_hasBracketed 31 = .ok (.ifCond .eq 28, 3) := by decide +kernel
theorem dX6_hasBracketed_34 : decode cX6_hasBracketed 34 = .ok (.goto 13, 3) := by decide +kernel
theorem dX6_hasBracketed_37 : decode cX6_hasBracketed 37 = .ok (.aload_n 0, 1) := by decide +kernel
theorem dX6_hasBracketed_38 : decode cX6_hasBracketed 38 = .ok (.iload_n 1, 1) := by decide +kernel
theorem dX6_hasBracketed_39 : decode cX6_hasBracketed 39 = .ok (.iconst 1, 1) := by decide +kernel
theorem dX6_hasBracketed_40 : decode cX6_hasBracketed 40 = .ok (.iadd, 1) := by decide +kernel
theorem dX6_hasBracketed_41 : decode cX6_hasBracketed 41 = .ok (.invokevirtual 130, 3) := by decide +kernel
theorem dX6_hasBracketed_44 : decode cX6_hasBracketed 44 = .ok (.ifCond .eq 15, 3) := by decide +kernel
theorem dX6_hasBracketed_47 : decode cX6_hasBracketed 47 = .ok (.aload_n 0, 1) := by decide +kernel
theorem dX6_hasBracketed_48 : decode cX6_hasBracketed 48 = .ok (.iload_n 2, 1) := by decide +kernel
theorem dX6_hasBracketed_49 : decode cX6_hasBracketed 49 = .ok (.invokevirtual 82, 3) := by decide +kernel
theorem dX6_hasBracketed_52 : decode cX6_hasBracketed 52 = .ok (.ifCond .eq 7, 3) := by decide +kernel
theorem dX6_hasBracketed_55 : decode cX6_hasBracketed 55 = .ok (.iconst 1, 1) := by decide +kernel
theorem dX6_hasBracketed_56 : decode cX6_hasBracketed 56 = .ok (.goto 4, 3) := by decide +kernel
theorem dX6_hasBracketed_59 : decode cX6_hasBracketed 59 = .ok (.iconst 0, 1) := by decide +kernel
theorem dX6_hasBracketed_60 : decode cX6_hasBracketed 60 = .ok (.ireturn, 1) := by decide +kernel
theorem dX6_hasSum_0 : decode cX6_hasSum 0 = .ok (.aload_n 0, 1) := by decide +kernel
theorem dX6_hasSum_1 : decode cX6_hasSum 1 = .ok (.iload_n 1, 1) := by decide +kernel
theorem dX6_hasSum_2 : decode cX6_hasSum 2 = .ok (.invokevirtual 158, 3) := by decide +kernel
theorem dX6_hasSum_5 : decode cX6_hasSum 5 = .ok (.ifCond .ne 5, 3) := by decide +kernel
theorem dX6_hasSum_8 : decode cX6_hasSum 8 = .ok (.iconst 0, 1) := by decide +kernel
theorem dX6_hasSum_9 : decode cX6_hasSum 9 = .ok (.ireturn, 1) := by decide +kernel
theorem dX6_hasSum_10 : decode cX6_hasSum 10 = .ok (.aload_n 0, 1) := by decide +kernel
theorem dX6_hasSum_11 : decode cX6_hasSum 11 = .ok (.getfield 69, 3) := by decide +kernel
theorem dX6_hasSum_14 : decode cX6_hasSum 14 = .ok (.aload_n 0, 1) := by decide +kernel
theorem dX6_hasSum_15 : decode cX6_hasSum 15 = .ok (.getfield 86, 3) := by decide +kernel
theorem dX6_hasSum_18 : decode cX6_hasSum 18 = .ok (.if_icmp .ge 74, 3) := by decide +kernel
theorem dX6_hasSum_21 : decode cX6_hasSum 21 = .ok (.aload_n 0, 1) := by decide +kernel
theorem dX6_hasSum_22 : decode cX6_hasSum 22 = .ok (.getfield 24, 3) := by decide +kernel
theorem dX6_hasSum_25 : decode cX6_hasSum 25 = .ok (.aload_n 0, 1) := by decide +kernel
theorem dX6_hasSum_26 : decode cX6_hasSum 26 = .ok (.getfield 69, 3) := by decide +kernel
theorem dX6_hasSum_29 : decode cX6_hasSum 29 = .ok (.iaload, 1) := by decide +kernel
theorem dX6_hasSum_30 : decode cX6_hasSum 30 = .ok (.bipush 43, 2) := by decide +kernel
theorem dX6_hasSum_32 : decode cX6_hasSum 32 = .ok (.if_icmp .eq 17, 3) := by decide +kernel
theorem dX6_hasSum_35 : decode cX6_hasSum 35 = .ok (.aload_n 0, 1) := by decide +kernel
theorem dX6_hasSum_36 : decode cX6_hasSum 36 = .ok (.getfield 24, 3) := by decide +kernel
theorem dX6_hasSum_39 : decode cX6_hasSum 39 = .ok (.aload_n 0, 1) := by decide +kernel
theorem dX6_hasSum_40 : decode cX6_hasSum 40 = .ok (.getfield 69, 3) := by decide +kernel
theorem dX6_hasSum_43 : decode cX6_hasSum 43 = .ok (.iaload, 1) := by decide +kernel
theorem dX6_hasSum_44 : decode cX6_hasSum 44 = .ok (.bipush 45, 2) := by decide +kernel
theorem dX6_hasSum_46 : decode cX6_hasSum 46 = .ok (.if_icmp .ne 46, 3) := by decide +kernel
theorem dX6_hasSum_49 : decode cX6_hasSum 49 = .ok (.aload_n 0, 1) := by decide +kernel
theorem dX6_hasSum_50 : decode cX6_hasSum 50 = .ok (.getfield 24, 3) := by decide +kernel
theorem dX6_hasSum_53 : decode cX6_hasSum 53 = .ok (.aload_n 0, 1) := by decide +kernel
theorem dX6_hasSum_54 : decode cX6_hasSum 54 = .ok (.getfield 69, 3) := by decide +kernel
theorem dX6_hasSum_57 : decode cX6_hasSum 57 = .ok (.iaload, 1) := by decide +kernel
theorem dX6_hasSum_58 : decode cX6_hasSum 58 = .ok (.istore_n 2, 1) := by decide +kernel
theorem dX6_hasSum_59 : decode cX6_hasSum 59 = .ok (.aload_n 0, 1) := by decide +kernel
theorem dX6_hasSum_60 : decode cX6_hasSum 60 = .ok (.dup, 1) := by decide +kernel
theorem dX6_hasSum_61 : decode cX6_hasSum 61 = .ok (.getfield 69, 3) := by decide +kernel
theorem dX6_hasSum_64 : decode cX6_hasSum 64 = .ok (.iconst 1, 1) := by decide +kernel
theorem dX6_hasSum_65 : decode cX6_hasSum 65 = .ok (.iadd, 1) := by decide +kernel
theorem dX6_hasSum_66 : decode cX6_hasSum 66 = .ok (.putfield 69, 3) := by decide +kernel
theorem dX6_hasSum_69 : decode cX6_hasSum 69 = .ok (.aload_n 0, 1) := by decide +kernel
theorem dX6_hasSum_70 : decode cX6_hasSum 70 = .ok (.iload_n 1, 1) := by decide +kernel
theorem dX6_hasSum_71 : decode cX6_hasSum 71 = .ok (.invokevirtual 158, 3) := by decide +kernel
theorem dX6_hasSum_74 : decode cX6_hasSum 74 = .ok (.ifCond .ne 5, 3) := by decide +kernel
theorem dX6_hasSum_77 : decode cX6_hasSum 77 = .ok (.iconst 0, 1) := by decide +kernel
theorem dX6_hasSum_78 : decode cX6_hasSum 78 = .ok (.ireturn, 1) := by decide +kernel
theorem dX6_hasSum_79 : decode cX6_hasSum 79 = .ok (.aload_n 0, 1) := by decide +kernel
theorem dX6_hasSum_80 : decode cX6_hasSum 80 = .ok (.getfield 14, 3) := by decide +kernel
theorem dX6_hasSum_83 : decode cX6_hasSum 83 = .ok (.iload_n 2, 1) := by decide +kernel
theorem dX6_hasSum_84 : decode cX6_hasSum 84 = .ok (.iconst 0, 1) := by decide +kernel
theorem dX6_hasSum_85 : decode cX6_hasSum 85 = .ok (.invokevirtual 148, 3) := by decide +kernel
theorem dX6_hasSum_88 : decode cX6_hasSum 88 = .ok (.pop, 1) := by decide +kernel
theorem dX6_hasSum_89 : decode cX6_hasSum 89 = .ok (.goto (-79), 3) := by decide +kernel
theorem dX6_hasSum_92 : decode cX6_hasSum 92 = .ok (.iconst 1, 1) := by decide +kernel
theorem dX6_hasSum_93 : decode cX6_hasSum 93 = .ok (.ireturn, 1) := by decide +kernel
theorem dX6_hasTerm_0 : decode cX6_hasTerm 0 = .ok (.aload_n 0, 1) := by decide +kernel
theorem dX6_hasTerm_1 : decode cX6_hasTerm 1 = .ok (.iload_n 1, 1) := by decide +kernel
theorem dX6_hasTerm_2 : decode cX6_hasTerm 2 = .ok (.invokevirtual 161, 3) := by decide +kernel
theorem dX6_hasTerm_5 : decode cX6_hasTerm 5 = .ok (.ifCond .ne 5, 3) := by decide +kernel
theorem dX6_hasTerm_8 : decode cX6_hasTerm 8 = .ok (.iconst 0, 1) := by decide +kernel
theorem dX6_hasTerm_9 : decode cX6_hasTerm 9 = .ok (.ireturn, 1) := by decide +kernel
theorem dX6_hasTerm_10 : decode cX6_hasTerm 10 = .ok (.aload_n 0, 1) := by decide +kernel
theorem dX6_hasTerm_11 : decode cX6_hasTerm 11 = .ok (.getfield 69, 3) := by decide +kernel
theorem dX6_hasTerm_14 : decode cX6_hasTerm 14 = .ok (.aload_n 0, 1) := by decide +kernel
theorem dX6_hasTerm_15 : decode cX6_hasTerm 15 = .ok (.getfield 86, 3) := by decide +kernel
theorem dX6_hasTerm_18 : decode cX6_hasTerm 18 = .ok (.if_icmp .ge 88, 3) := by decide +kernel
theorem dX6_hasTerm_21 : decode cX6_hasTerm 21 = .ok (.aload_n 0, 1) := by decide +kernel
theorem dX6_hasTerm_22 : decode cX6_hasTerm 22 = .ok (.getfield 24, 3) := by decide +kernel
theorem dX6_hasTerm_25 : decode cX6_hasTerm 25 = .ok (.aload_n 0, 1) := by decide +kernel
theorem dX6_hasTerm_26 : decode cX6_hasTerm 26 = .ok (.getfield 69, 3) := by decide +kernel
theorem dX6_hasTerm_29 : decode cX6_hasTerm 29 = .ok (.iaload, 1) := by decide +kernel
theorem dX6_hasTerm_30 : decode cX6_hasTerm 30 = .ok (.bipush 42, 2) := by decide +kernel
theorem dX6_hasTerm_32 : decode cX6_hasTerm 32 = .ok (.if_icmp .eq 31, 3) := by decide +kernel
theorem dX6_hasTerm_35 : decode cX6_hasTerm 35 = .ok (.aload_n 0, 1) := by decide +kernel
theorem dX6_hasTerm_36 : decode cX6_hasTerm 36 = .ok (.getfield 24, 3) := by decide +kernel
theorem dX6_hasTerm_39 : decode cX6_hasTerm 39 = .ok (.aload_n 0, 1) := by decide +kernel
theorem dX6_hasTerm_40 : decode cX6_hasTerm 40 = .ok (.getfield 69, 3) := by decide +kernel
theorem dX6_hasTerm_43 : decode cX6_hasTerm 43 = .ok (.iaload, 1) := by decide +kernel
theorem dX6_hasTerm_44 : decode cX6_hasTerm 44 = .ok (.bipush 47, 2) := by decide +kernel
theorem dX6_hasTerm_46 : decode cX6_hasTerm 46 = .ok (.if_icmp .eq 17, 3) := by decide +kernel
theorem dX6_hasTerm_49 : decode cX6_hasTerm 49 = .ok (.aload_n 0, 1) := by decide +kernel
theorem dX6_hasTerm_50 : decode cX6_hasTerm 50 = .ok (.getfield 24, 3) := by decide +kernel
theorem dX6_hasTerm_53 : decode cX6_hasTerm 53 = .ok (.aload_n 0, 1) := by decide +kernel
theorem dX6_hasTerm_54 : decode cX6_hasTerm 54 = .ok (.getfield 69, 3) := by decide +kernel
theorem dX6_hasTerm_57 : decode cX6_hasTerm 57 = .ok (.iaload, 1) := by decide +kernel
theorem dX6_hasTerm_58 : decode cX6_hasTerm 58 = .ok (.bipush 37, 2) := by decide +kernel
theorem dX6_hasTerm_60 : decode cX6_hasTerm 60 = .ok (.if_icmp .ne 46, 3) := by decide +kernel
theorem dX6_hasTerm_63 : decode cX6_hasTerm 63 = .ok (.aload_n 0, 1) := by decide +kernel
theorem dX6_hasTerm_64 : decode cX6_hasTerm 64 = .ok (.getfield 24, 3) := by decide +kernel
theorem dX6_hasTerm_67 : decode cX6_hasTerm 67 = .ok (.aload_n 0, 1) := by decide +kernel
theorem dX6_hasTerm_68 : decode cX6_hasTerm 68 = .ok (.getfield 69, 3) := by decide +kernel
theorem dX6_hasTerm_71 : decode cX6_hasTerm 71 = .ok (.iaload, 1) := by decide +kernel
theorem dX6_hasTerm_72 : decode cX6_hasTerm 72 = .ok (.istore_n 2, 1) := by decide +kernel
theorem dX6_hasTerm_73 : decode cX6_hasTerm 73 = .ok (.aload_n 0, 1) := by decide +kernel
theorem dX6_hasTerm_74 : decode cX6_hasTerm 74 = .ok (.dup, 1) := by decide +kernel
theorem dX6_hasTerm_75 : decode cX6_hasTerm 75 = .ok (.getfield 69, 3) := by decide +kernel
theorem dX6_hasTerm_78 : decode cX6_hasTerm 78 = .ok (.iconst 1, 1) := by decide +kernel
theorem dX6_hasTerm_79 : decode cX6_hasTerm 79 = .ok (.iadd, 1) := by decide +kernel
theorem dX6_hasTerm_80 : decode cX6_hasTerm 80 = .ok (.putfield 69, 3) := by decide +kernel
theorem dX6_hasTerm_83 : decode cX6_hasTerm 83 = .ok (.aload_n 0, 1) := by decide +kernel
theorem dX6_hasTerm_84 : decode cX6_hasTerm 84 = .ok (.iload_n 1, 1) := by decide +kernel
theorem dX6_hasTerm_85 : decode cX6_hasTerm 85 = .ok (.invokevirtual 161, 3) := by decide +kernel
theorem dX6_hasTerm_88 : decode cX6_hasTerm 88 = .ok (.ifCond .ne 5, 3) := by decide +kernel
theorem dX6_hasTerm_91 : decode cX6_hasTerm 91 = .ok (.iconst 0, 1) := by decide +kernel
theorem dX6_hasTerm_92 : decode cX6_hasTerm 92 = .ok (.ireturn, 1) := by decide +kernel
theorem dX6_hasTerm_93 : decode cX6_hasTerm 93 = .ok (.aload_n 0, 1) := by decide +kernel
theorem dX6_hasTerm_94 : decode cX6_hasTerm 94 = .ok (.getfield 14, 3) := by decide +kernel
theorem dX6_hasTerm_97 : decode cX6_hasTerm 97 = .ok (.iload_n 2, 1) := by decide +kernel
theorem dX6_hasTerm_98 : decode cX6_hasTerm 98 = .ok (.iconst 0, 1) := by decide +kernel
theorem dX6_hasTerm_99 : decode cX6_hasTerm 99 = .ok (.invokevirtual 148, 3) := by decide +kernel
theorem dX6_hasTerm_102 : decode cX6_hasTerm 102 = .ok (.pop, 1) := by decide +kernel
theorem dX6_hasTerm_103 : decode cX6_hasTerm 103 = .ok (.goto (-93), 3) := by decide +kernel
theorem dX6_hasTerm_106 : decode cX6_hasTerm 106 = .ok (.iconst 1, 1) := by decide +kernel
theorem dX6_hasTerm_107 : decode cX6_hasTerm 107 = .ok (.ireturn, 1) := by decide +kernel
theorem dX6_hasPart_0 : decode cX6_hasPart 0 = .ok (.aload_n 0, 1) := by decide +kernel
theorem dX6_hasPart_1 : decode cX6_hasPart 1 = .ok (.invokevirtual 79, 3) := by decide +kernel
theorem dX6_hasPart_4 : decode cX6_hasPart 4 = .ok (.istore_n 2, 1) := by decide +kernel
theorem dX6_hasPart_5 : decode cX6_hasPart 5 = .ok (.iload_n 2, 1) := by decide +kernel
theorem dX6_hasPart_6 : decode cX6_hasPart 6 = .ok (.bipush 91, 2) := by decide +kernel
theorem dX6_hasPart_8 : decode cX6_hasPart 8 = .ok (.if_icmp .ne 11, 3) := by decide +kernel
theorem dX6_hasPart_11 : decode cX6_hasPart 11 = .ok (.aload_n 0, 1) := by decide +kernel
theorem dX6_hasPart_12 : decode cX6_hasPart 12 = .ok (.iload_n 1, 1) := by decide +kernel
theorem dX6_hasPart_13 : decode cX6_hasPart 13 = .ok (.bipush 93, 2) := by decide +kernel
theorem dX6_hasPart_15 : decode cX6_hasPart 15 = .ok (.invokevirtual 151, 3) := by decide +kernel
theorem dX6_hasPart_18 : decode cX6_hasPart 18 = .ok (.ireturn, 1) := by decide +kernel
theorem dX6_hasPart_19 : decode cX6_hasPart 19 = .ok (.aload_n 0, 1) := by decide +kernel
theorem dX6_hasPart_20 : decode cX6_hasPart 20 = .ok (.getfield 72, 3) := by decide +kernel
theorem dX6_hasPart_23 : decode cX6_hasPart 23 = .ok (.bipush 50, 2) := by decide +kernel
theorem dX6_hasPart_25 : decode cX6_hasPart 25 = .ok (.if_icmp .lt 5, 3) := by decide +kernel
theorem dX6_hasPart_28 : decode cX6_hasPart 28 = .ok (.iconst 0, 1) := by decide +kernel
theorem dX6_hasPart_29 : decode cX6_hasPart 29 = .ok (.ireturn, 1) := by decide +kernel
theorem dX6_hasPart_30 : decode cX6_hasPart 30 = .ok (.aload_n 0, 1) := by decide +kernel
theorem dX6_hasPart_31 : decode cX6_hasPart 31 = .ok (.dup, 1) := by decide +kernel
theorem dX6_hasPart_32 : decode cX6_hasPart 32 = .ok (.getfield 72, 3) := by decide +kernel
theorem dX6_hasPart_35 : decode cX6_hasPart 35 = .ok (.iconst 1, 1) := by decide +kernel
theorem dX6_hasPart_36 : decode cX6_hasPart 36 = .ok (.iadd, 1) := by decide +kernel
theorem dX6_hasPart_37 : decode cX6_hasPart 37 = .ok (.putfield 72, 3) := by decide +kernel
theorem dX6_hasPart_40 : decode cX6_hasPart 40 = .ok (.iload_n 2, 1) := by decide +kernel
theorem dX6_hasPart_41 : decode cX6_hasPart 41 = .ok (.sipush 300, 3) := by decide +kernel
theorem dX6_hasPart_44 : decode cX6_hasPart 44 = .ok (.if_icmp .ne 7, 3) := by decide +kernel
theorem dX6_hasPart_47 : decode cX6_hasPart 47 = .ok (.iconst 1, 1) := by decide +kernel
theorem dX6_hasPart_48 : decode cX6_hasPart 48 = .ok (.goto 4, 3) := by decide +kernel
theorem dX6_hasPart_51 : decode cX6_hasPart 51 = .ok (.iconst 0, 1) := by decide +kernel
theorem dX6_hasPart_52 : decode cX6_hasPart 52 = .ok (.istore_n 3, 1) := by decide +kernel
theorem dX6_hasPart_53 : decode cX6_hasPart 53 = .ok (.iload_n 3, 1) := by decide +kernel
theorem dX6_hasPart_54 : decode cX6_hasPart 54 = .ok (.ifCond .eq 14, 3) := by decide +kernel
theorem dX6_hasPart_57 : decode cX6_hasPart 57 = .ok (.aload_n 0, 1) := by decide +kernel
theorem dX6_hasPart_58 : decode cX6_hasPart 58 = .ok (.iconst 0, 1) := by decide +kernel
theorem dX6_hasPart_59 : decode cX6_hasPart 59 = .ok (.sipush 1000, 3) := by decide +kernel
theorem dX6_hasPart_62 : decode cX6_hasPart 62 = .ok (.invokevirtual 136, 3) := by decide +kernel
theorem dX6_hasPart_65 : decode cX6_hasPart 65 = .ok (.goto 23, 3) := by decide +kernel
theorem dX6_hasPart_68 : decode cX6_hasPart 68 = .ok (.aload_n 0, 1) := by decide +kernel
theorem dX6_hasPart_69 : decode cX6_hasPart 69 = .ok (.getfield 52, 3) := by decide +kernel
theorem dX6_hasPart_72 : decode cX6_hasPart 72 = .ok (.ifCond .eq 11, 3) := by decide +kernel
theorem dX6_hasPart_75 : decode cX6_hasPart 75 = .ok (.aload_n 0, 1) := by decide +kernel
theorem dX6_hasPart_76 : decode cX6_hasPart 76 = .ok (.iload_n 2, 1) := by decide +kernel
theorem dX6_hasPart_77 : decode cX6_hasPart 77 = .ok (.invokevirtual 164, 3) := by decide +kernel
theorem dX6_hasPart_80 : decode cX6_hasPart 80 = .ok (.goto 8, 3) := by decide +kernel
theorem dX6_hasPart_83 : decode cX6_hasPart 83 = .ok (.aload_n 0, 1) := by decide +kernel
theorem dX6_hasPart_84 : decode cX6_hasPart 84 = .ok (.iload_n 2, 1) := by decide +kernel
theorem dX6_hasPart_85 : decode cX6_hasPart 85 = .ok (.invokevirtual 167, 3) := by decide +kernel
theorem dX6_hasPart_88 : decode cX6_hasPart 88 = .ok (.istore 4, 2) := by decide +kernel
theorem dX6_hasPart_90 : decode cX6_hasPart 90 = .ok (.iload 4, 2) := by decide +kernel
theorem dX6_hasPart_92 : decode cX6_hasPart 92 = .ok (.iconst (-1), 1) := by decide +kernel
theorem dX6_hasPart_93 : decode cX6_hasPart 93 = .ok (.if_icmp .ne 5, 3) := by decide +kernel
theorem dX6_hasPart_96 : decode cX6_hasPart 96 = .ok (.iconst 0, 1) := by decide +kernel
theorem dX6_hasPart_97 : decode cX6_hasPart 97 = .ok (.ireturn, 1) := by decide +kernel
theorem dX6_hasPart_98 : decode cX6_hasPart 98 = .ok (.aload_n 0, 1) := by decide +kernel
theorem dX6_hasPart_99 : decode cX6_hasPart 99 = .ok (.getfield 14, 3) := by decide +kernel
theorem dX6_hasPart_102 : decode cX6_hasPart 102 = .ok (.iload_n 3, 1) := by decide +kernel
theorem dX6_hasPart_103 : decode cX6_hasPart 103 = .ok (.ifCond .eq 9, 3) := by decide +kernel
theorem dX6_hasPart_106 : decode cX6_hasPart 106 = .ok (.sipush 300, 3) := by decide +kernel
theorem dX6_hasPart_109 : decode cX6_hasPart 109 = .ok (.goto 6, 3) := by decide +kernel
theorem dX6_hasPart_112 : decode cX6_hasPart 112 = .ok (.sipush 303, 3) := by decide +kernel
theorem dX6_hasPart_115 : decode cX6_hasPart 115 = .ok (.iload 4, 2) := by decide +kernel
theorem dX6_hasPart_117 : decode cX6_hasPart 117 = .ok (.invokevirtual 148, 3) := by decide +kernel
theorem dX6_hasPart_120 : decode cX6_hasPart 120 = .ok (.pop, 1) := by decide +kernel
theorem dX6_hasPart_121 : decode cX6_hasPart 121 = .ok (.iconst 1, 1) := by decide +kernel
theorem dX6_hasPart_122 : decode cX6_hasPart 122 = .ok (.ireturn, 1) := by decide +kernel
theorem dX6_takeLawWord_0 : decode cX6_takeLawWord 0 = .ok (.iload_n 1, 1) := by decide +kernel
theorem dX6_takeLawWord_1 : decode cX6_takeLawWord 1 = .ok (.sipush 271, 3) := by decide +kernel
theorem dX6_takeLawWord_4 : decode cX6_takeLawWord 4 = .ok (.if_icmp .lt 10, 3) := by decide +kernel
theorem dX6_takeLawWord_7 : decode cX6_takeLawWord 7 = .ok (.iload_n 1, 1) := by decide +kernel
theorem dX6_takeLawWord_8 : decode cX6_takeLawWord 8 = .ok (.sipush 278, 3) := by decide +kernel
theorem dX6_takeLawWord_11 : decode cX6_takeLawWord 11 = .ok (.if_icmp .le 5, 3) := by decide +kernel
theorem dX6_takeLawWord_14 : decode cX6_takeLawWord 14 = .ok (.iconst (-1), 1) := by decide +kernel
theorem dX6_takeLawWord_15 : decode cX6_takeLawWord 15 = .ok (.ireturn, 1) := by decide +kernel
theorem dX6_takeLawWord_16 : decode cX6_takeLawWord 16 = .ok (.aload_n 0, 1) := by decide +kernel
theorem dX6_takeLawWord_17 : decode cX6_takeLawWord 17 = .ok (.dup, 1) := by decide +kernel
theorem dX6_takeLawWord_18 : decode cX6_takeLawWord 18 = .ok (.getfield 69, 3) := by decide +kernel
theorem dX6_takeLawWord_21 : decode cX6_takeLawWord 21 = .ok (.iconst 1, 1) := by decide +kernel
theorem dX6_takeLawWord_22 : decode cX6_takeLawWord 22 = .ok (.iadd, 1) := by decide +kernel
theorem dX6_takeLawWord_23 : decode cX6_takeLawWord 23 = .ok (.putfield 69, 3) := by decide +kernel
theorem dX6_takeLawWord_26 : decode cX6_takeLawWord 26 = .ok (.iload_n 1, 1) := by decide +kernel
theorem dX6_takeLawWord_27 : decode cX6_takeLawWord 27 = .ok (.sipush 271, 3) := by decide +kernel
theorem dX6_takeLawWord_30 : decode cX6_takeLawWord 30 = .ok (.isub, 1) := by decide +kernel
theorem dX6_takeLawWord_31 : decode cX6_takeLawWord 31 = .ok (.ireturn, 1) := by decide +kernel
theorem dX6_takeOrderWord_0 : decode cX6_takeOrderWord 0 = .ok (.iload_n 1, 1) := by decide +kernel
theorem dX6_takeOrderWord_1 : decode cX6_takeOrderWord 1 = .ok (.invokestatic 170, 3) := by decide +kernel
theorem dX6_takeOrderWord_4 : decode cX6_takeOrderWord 4 = .ok (.istore_n 2, 1) := by decide +kernel
theorem dX6_takeOrderWord_5 : decode cX6_takeOrderWord 5 = .ok (.iload_n 2, 1) := by decide +kernel
theorem dX6_takeOrderWord_6 : decode cX6_takeOrderWord 6 = .ok (.iconst (-1), 1) := by decide +kernel
theorem dX6_takeOrderWord_7 : decode cX6_takeOrderWord 7 = .ok (.if_icmp .ne 5, 3) := by decide +kernel
theorem dX6_takeOrderWord_10 : decode cX6_takeOrderWord 10 = .ok (.iconst (-1), 1) := by decide +kernel
theorem dX6_takeOrderWord_11 : decode cX6_takeOrderWord 11 = .ok (.ireturn, 1) := by decide +kernel
theorem dX6_takeOrderWord_12 : decode cX6_takeOrderWord 12 = .ok (.aload_n 0, 1) := by decide +kernel
theorem dX6_takeOrderWord_13 : decode cX6_takeOrderWord 13 = .ok (.dup, 1) := by decide +kernel
theorem dX6_takeOrderWord_14 : decode cX6_takeOrderWord 14 = .ok (.getfield 69, 3) := by decide +kernel
theorem dX6_takeOrderWord_17 : decode cX6_takeOrderWord 17 = .ok (.iconst 1, 1) := by decide +kernel
theorem dX6_takeOrderWord_18 : decode cX6_takeOrderWord 18 = .ok (.iadd, 1) := by decide +kernel
theorem dX6_takeOrderWord_19 : decode cX6_takeOrderWord 19 = .ok (.putfield 69, 3) := by decide +kernel
theorem dX6_takeOrderWord_22 : decode cX6_takeOrderWord 22 = .ok (.iload_n 2, 1) := by decide +kernel
theorem dX6_takeOrderWord_23 : decode cX6_takeOrderWord 23 = .ok (.iconst 4, 1) := by decide +kernel
theorem dX6_takeOrderWord_24 : decode cX6_takeOrderWord 24 = .ok (.if_icmp .ge 5, 3) := by decide +kernel
theorem dX6_takeOrderWord_27 : decode cX6_takeOrderWord 27 = .ok (.iload_n 2, 1) := by decide +kernel
theorem dX6_takeOrderWord_28 : decode cX6_takeOrderWord 28 = .ok (.ireturn, 1) := by decide +kernel
theorem dX6_takeOrderWord_29 : decode cX6_takeOrderWord 29 = .ok (.aload_n 0, 1) := by decide +kernel
theorem dX6_takeOrderWord_30 : decode cX6_takeOrderWord 30 = .ok (.iconst 0, 1) := by decide +kernel
theorem dX6_takeOrderWord_31 : decode cX6_takeOrderWord 31 = .ok (.iload_n 2, 1) := by decide +kernel
theorem dX6_takeOrderWord_32 : decode cX6_takeOrderWord 32 = .ok (.bipush 16, 2) := by decide +kernel
theorem dX6_takeOrderWord_34 : decode cX6_takeOrderWord 34 = .ok (.if_icmp .ne 7, 3) := by decide +kernel
theorem dX6_takeOrderWord_37 : decode cX6_takeOrderWord 37 = .ok (.iconst 2, 1) := by decide +kernel
theorem dX6_takeOrderWord_38 : decode cX6_takeOrderWord 38 = .ok (.goto 4, 3) := by decide +kernel
theorem dX6_takeOrderWord_41 : decode cX6_takeOrderWord 41 = .ok (.iconst 5, 1) := by decide +kernel
theorem dX6_takeOrderWord_42 : decode cX6_takeOrderWord 42 = .ok (.invokevirtual 136, 3) := by decide +kernel
theorem dX6_takeOrderWord_45 : decode cX6_takeOrderWord 45 = .ok (.istore_n 3, 1) := by decide +kernel
theorem dX6_takeOrderWord_46 : decode cX6_takeOrderWord 46 = .ok (.iload_n 3, 1) := by decide +kernel
theorem dX6_takeOrderWord_47 : decode cX6_takeOrderWord 47 = .ok (.iconst (-1), 1) := by decide +kernel
theorem dX6_takeOrderWord_48 : decode cX6_takeOrderWord 48 = .ok (.if_icmp .ne 7, 3) := by decide +kernel
theorem dX6_takeOrderWord_51 : decode cX6_takeOrderWord 51 = .ok (.iconst (-1), 1) := by decide +kernel
theorem dX6_takeOrderWord_52 : decode cX6_takeOrderWord 52 = .ok (.goto 6, 3) := by decide +kernel
theorem dX6_takeOrderWord_55 : decode cX6_takeOrderWord 55 = .ok (.iload_n 2, 1) := by decide +kernel
theorem dX6_takeOrderWord_56 : decode cX6_takeOrderWord 56 = .ok (.iload_n 3, 1) := by decide +kernel
theorem dX6_takeOrderWord_57 : decode cX6_takeOrderWord 57 = .ok (.iadd, 1) := by decide +kernel
theorem dX6_takeOrderWord_58 : decode cX6_takeOrderWord 58 = .ok (.ireturn, 1) := by decide +kernel
theorem dX6_placeOfOrderWord_0 : decode cX6_placeOfOrderWord 0 = .ok (.iload_n 0, 1) := by decide +kernel
theorem dX6_placeOfOrderWord_1 : decode cX6_placeOfOrderWord 1 = .ok (.tableswitch 75 272 282 #[67, 75, 75, 69, 75, 59, 75, 61, 63, 65, 72], 59) := by decide +kernel
theorem dX6_placeOfOrderWord_60 : decode cX6_placeOfOrderWord 60 = .ok (.iconst 0, 1) := by decide +kernel
theorem dX6_placeOfOrderWord_61 : decode cX6_placeOfOrderWord 61 = .ok (.ireturn, 1) := by decide +kernel
theorem dX6_placeOfOrderWord_62 : decode cX6_placeOfOrderWord 62 = .ok (.iconst 1, 1) := by decide +kernel
theorem dX6_placeOfOrderWord_63 : decode cX6_placeOfOrderWord 63 = .ok (.ireturn, 1) := by decide +kernel
theorem dX6_placeOfOrderWord_64 : decode cX6_placeOfOrderWord 64 = .ok (.iconst 2, 1) := by decide +kernel
theorem dX6_placeOfOrderWord_65 : decode cX6_placeOfOrderWord 65 = .ok (.ireturn, 1) := by decide +kernel
theorem dX6_placeOfOrderWord_66 : decode cX6_placeOfOrderWord 66 = .ok (.iconst 3, 1) := by decide +kernel
theorem dX6_placeOfOrderWord_67 : decode cX6_placeOfOrderWord 67 = .ok (.ireturn, 1) := by decide +kernel
theorem dX6_placeOfOrderWord_68 : decode cX6_placeOfOrderWord 68 = .ok (.iconst 4, 1) := by decide +kernel
theorem dX6_placeOfOrderWord_69 : decode cX6_placeOfOrderWord 69 = .ok (.ireturn, 1) := by decide +kernel
theorem dX6_placeOfOrderWord_70 : decode cX6_placeOfOrderWord 70 = .ok (.bipush 10, 2) := by decide +kernel
theorem dX6_placeOfOrderWord_72 : decode cX6_placeOfOrderWord 72 = .ok (.ireturn, 1) := by decide +kernel
theorem dX6_placeOfOrderWord_73 : decode cX6_placeOfOrderWord 73 = .ok (.bipush 16, 2) := by decide +kernel
theorem dX6_placeOfOrderWord_75 : decode cX6_placeOfOrderWord 75 = .ok (.ireturn, 1) := by decide +kernel
theorem dX6_placeOfOrderWord_76 : decode cX6_placeOfOrderWord 76 = .ok (.iconst (-1), 1) := by decide +kernel
theorem dX6_placeOfOrderWord_77 : decode cX6_placeOfOrderWord 77 = .ok (.ireturn, 1) := by decide +kernel
theorem dX8_init_0 : decode cX8_init 0 = .ok (.aload_n 0, 1) := by decide +kernel
theorem dX8_init_1 : decode cX8_init 1 = .ok (.invokespecial 3, 3) := by decide +kernel
theorem dX8_init_4 : decode cX8_init 4 = .ok (.aload_n 0, 1) := by decide +kernel
theorem dX8_init_5 : decode cX8_init 5 = .ok (.aload_n 1, 1) := by decide +kernel
theorem dX8_init_6 : decode cX8_init 6 = .ok (.putfield 9, 3) := by decide +kernel
theorem dX8_init_9 : decode cX8_init 9 = .ok (.aload_n 0, 1) := by decide +kernel
theorem dX8_init_10 : decode cX8_init 10 = .ok (.bipush 60, 2) := by decide +kernel
theorem dX8_init_12 : decode cX8_init 12 = .ok (.newarray .int, 2) := by decide +kernel
theorem dX8_init_14 : decode cX8_init 14 = .ok (.putfield 15, 3) := by decide +kernel
theorem dX8_init_17 : decode cX8_init 17 = .ok (.aload_n 0, 1) := by decide +kernel
theorem dX8_init_18 : decode cX8_init 18 = .ok (.bipush 10, 2) := by decide +kernel
theorem dX8_init_20 : decode cX8_init 20 = .ok (.newarray .int, 2) := by decide +kernel
theorem dX8_init_22 : decode cX8_init 22 = .ok (.putfield 19, 3) := by decide +kernel
theorem dX8_init_25 : decode cX8_init 25 = .ok (.aload_n 0, 1) := by decide +kernel
theorem dX8_init_26 : decode cX8_init 26 = .ok (.bipush 72, 2) := by decide +kernel
theorem dX8_init_28 : decode cX8_init 28 = .ok (.newarray .int, 2) := by decide +kernel
theorem dX8_init_30 : decode cX8_init 30 = .ok (.putfield 22, 3) := by decide +kernel
theorem dX8_init_33 : decode cX8_init 33 = .ok (.aload_n 0, 1) := by decide +kernel
theorem dX8_init_34 : decode cX8_init 34 = .ok (.sipush 512, 3) := by decide +kernel
theorem dX8_init_37 : decode cX8_init 37 = .ok (.newarray .int, 2) := by decide +kernel
theorem dX8_init_39 : decode cX8_init 39 = .ok (.putfield 25, 3) := by decide +kernel
theorem dX8_init_42 : decode cX8_init 42 = .ok (.return_, 1) := by decide +kernel
theorem dX8_livesItCanBe_0 : decode cX8_livesItCanBe 0 = .ok (.sipush 511, 3) := by decide +kernel
theorem dX8_livesItCanBe_3 : decode cX8_livesItCanBe 3 = .ok (.istore_n 3, 1) := by decide +kernel
theorem dX8_livesItCanBe_4 : decode cX8_livesItCanBe 4 = .ok (.aload_n 1, 1) := by decide +kernel
theorem dX8_livesItCanBe_5 : decode cX8_livesItCanBe 5 = .ok (.iload_n 2, 1) := by decide +kernel
theorem dX8_livesItCanBe_6 : decode cX8_livesItCanBe 6 = .ok (.invokevirtual 28, 3) := by decide +kernel
theorem dX8_livesItCanBe_9 : decode cX8_livesItCanBe 9 = .ok (.istore 4, 2) := by decide +kernel
theorem dX8_livesItCanBe_11 : decode cX8_livesItCanBe 11 = .ok (.aload_n 0, 1) := by decide +kernel
theorem dX8_livesItCanBe_12 : decode cX8_livesItCanBe 12 = .ok (.getfield 9, 3) := by decide +kernel
theorem dX8_livesItCanBe_15 : decode cX8_livesItCanBe 15 = .ok (.aload_n 1, 1) := by decide +kernel
theorem dX8_livesItCanBe_16 : decode cX8_livesItCanBe 16 = .ok (.iload_n 2, 1) := by decide +kernel
theorem dX8_livesItCanBe_17 : decode cX8_livesItCanBe 17 = .ok (.invokevirtual 34, 3) := by decide +kernel
theorem dX8_livesItCanBe_20 : decode cX8_livesItCanBe 20 = .ok (.iconst 0, 1) := by decide +kernel
theorem dX8_livesItCanBe_21 : decode cX8_livesItCanBe 21 = .ok (.istore 5, 2) := by decide +kernel
theorem dX8_livesItCanBe_23 : decode cX8_livesItCanBe 23 = .ok (.iload 5, 2) := by decide +kernel
theorem dX8_livesItCanBe_25 : decode cX8_livesItCanBe 25 = .ok (.aload_n 1, 1) := by decide +kernel
theorem dX8_livesItCanBe_26 : decode cX8_livesItCanBe 26 = .ok (.getfield 40, 3) := by decide +kernel
theorem dX8_livesItCanBe_29 : decode cX8_livesItCanBe 29 = .ok (.if_icmp .ge 22, 3) := by decide +kernel
theorem dX8_livesItCanBe_32 : decode cX8_livesItCanBe 32 = .ok (.iload_n 3, 1) := by decide +kernel
theorem dX8_livesItCanBe_33 : decode cX8_livesItCanBe 33 = .ok (.aload_n 0, 1) := by decide +kernel
theorem dX8_livesItCanBe_34 : decode cX8_livesItCanBe 34 = .ok (.aload_n 1, 1) := by decide +kernel
theorem dX8_livesItCanBe_35 : decode cX8_livesItCanBe 35 = .ok (.iload 5, 2) := by decide +kernel
theorem dX8_livesItCanBe_37 : decode cX8_livesItCanBe 37 = .ok (.iload_n 3, 1) := by decide +kernel
theorem dX8_livesItCanBe_38 : decode cX8_livesItCanBe 38 = .ok (.iload 4, 2) := by decide +kernel
theorem dX8_livesItCanBe_40 : decode cX8_livesItCanBe 40 = .ok (.invokevirtual 44, 3) := by decide +kernel
theorem dX8_livesItCanBe_43 : decode cX8_livesItCanBe 43 = .ok (.iand, 1) := by decide +kernel
theorem dX8_livesItCanBe_44 : decode cX8_livesItCanBe 44 = .ok (.istore_n 3, 1) := by decide +kernel
theorem dX8_livesItCanBe_45 : decode cX8_livesItCanBe 45 = .ok (.iinc 5 1, 3) := by decide +kernel
theorem dX8_livesItCanBe_48 : decode cX8_livesItCanBe 48 = .ok (.goto (-25), 3) := by decide +kernel
theorem dX8_livesItCanBe_51 : decode cX8_livesItCanBe 51 = .ok (.iload_n 3, 1) := by decide +kernel
theorem dX8_livesItCanBe_52 : decode cX8_livesItCanBe 52 = .ok (.ireturn, 1) := by decide +kernel
theorem dX8_livesThatShow_0 : decode cX8_livesThatShow 0 = .ok (.iconst 0, 1) := by decide +kernel
theorem dX8_livesThatShow_1 : decode cX8_livesThatShow 1 = .ok (.istore 5, 2) := by decide +kernel
theorem dX8_livesThatShow_3 : decode cX8_livesThatShow 3 = .ok (.aload_n 0, 1) := by decide +kernel
theorem dX8_livesThatShow_4 : decode cX8_livesThatShow 4 = .ok (.getfield 9, 3) := by decide +kernel
theorem dX8_livesThatShow_7 : decode cX8_livesThatShow 7 = .ok (.aload_n 1, 1) := by decide +kernel
theorem dX8_livesThatShow_8 : decode cX8_livesThatShow 8 = .ok (.getfield 48, 3) := by decide +kernel
theorem dX8_livesThatShow_11 : decode cX8_livesThatShow 11 = .ok (.iconst 0, 1) := by decide +kernel
theorem dX8_livesThatShow_12 : decode cX8_livesThatShow 12 = .ok (.iaload, 1) := by decide +kernel
theorem dX8_livesThatShow_13 : decode cX8_livesThatShow 13 = .ok (.iload_n 2, 1) := by decide +kernel
theorem dX8_livesThatShow_14 : decode cX8_livesThatShow 14 = .ok (.iadd, 1) := by decide +kernel
theorem dX8_livesThatShow_15 : decode cX8_livesThatShow 15 = .ok (.invokevirtual 51, 3) := by decide +kernel
theorem dX8_livesThatShow_18 : decode cX8_livesThatShow 18 = .ok (.iconst 0, 1) := by decide +kernel
theorem dX8_livesThatShow_19 : decode cX8_livesThatShow 19 = .ok (.istore 6, 2) := by decide +kernel
theorem dX8_livesThatShow_21 : decode cX8_livesThatShow 21 = .ok (.iload 6, 2) := by decide +kernel
theorem dX8_livesThatShow_23 : decode cX8_livesThatShow 23 = .ok (.bipush 9, 2) := by decide +kernel
theorem dX8_livesThatShow_25 : decode cX8_livesThatShow 25 = .ok (.if_icmp .ge 57, 3) := by decide +kernel
theorem dX8_livesThatShow_28 : decode cX8_livesThatShow 28 = .ok (.iload_n 3, 1) := by decide +kernel
theorem dX8_livesThatShow_29 : decode cX8_livesThatShow 29 = .ok (.iload 6, 2) := by decide +kernel
theorem dX8_livesThatShow_31 : decode cX8_livesThatShow 31 = .ok (.invokestatic 55, 3) := by decide +kernel
theorem dX8_livesThatShow_34 : decode cX8_livesThatShow 34 = .ok (.ifCond .eq 42, 3) := by decide +kernel
theorem dX8_livesThatShow_37 : decode cX8_livesThatShow 37 = .ok (.aload_n 0, 1) := by decide +kernel
theorem dX8_livesThatShow_38 : decode cX8_livesThatShow 38 = .ok (.getfield 9, 3) := by decide +kernel
theorem dX8_livesThatShow_41 : decode cX8_livesThatShow 41 = .ok (.iload 6, 2) := by decide +kernel
theorem dX8_livesThatShow_43 : decode cX8_livesThatShow 43 = .ok (.iload 4, 2) := by decide +kernel
theorem dX8_livesThatShow_45 : decode cX8_livesThatShow 45 = .ok (.invokevirtual 59, 3) := by decide +kernel
theorem dX8_livesThatShow_48 : decode cX8_livesThatShow 48 = .ok (.aload_n 0, 1) := by decide +kernel
theorem dX8_livesThatShow_49 : decode cX8_livesThatShow 49 = .ok (.getfield 9, 3) := by decide +kernel
theorem dX8_livesThatShow_52 : decode cX8_livesThatShow 52 = .ok (.sipush 265, 3) := by decide +kernel
theorem dX8_livesThatShow_55 : decode cX8_livesThatShow 55 = .ok (.invokevirtual 63, 3) := by decide +kernel
theorem dX8_livesThatShow_58 : decode cX8_livesThatShow 58 = .ok (.aload_n 1, 1) := by decide +kernel
theorem dX8_livesThatShow_59 : decode cX8_livesThatShow 59 = .ok (.getfield 66, 3) := by decide +kernel
theorem dX8_livesThatShow_62 : decode cX8_livesThatShow 62 = .ok (.iload_n 2, 1) := by decide +kernel
theorem dX8_livesThatShow_63 : decode cX8_livesThatShow 63 = .ok (.iaload, 1) := by decide +kernel
theorem dX8_livesThatShow_64 : decode cX8_livesThatShow 64 = .ok (.if_icmp .ne 12, 3) := by decide +kernel
theorem dX8_livesThatShow_67 : decode cX8_livesThatShow 67 = .ok (.iload 5, 2) := by decide +kernel
theorem dX8_livesThatShow_69 : decode cX8_livesThatShow 69 = .ok (.iconst 1, 1) := by decide +kernel
theorem dX8_livesThatShow_70 : decode cX8_livesThatShow 70 = .ok (.iload 6, 2) := by decide +kernel
theorem dX8_livesThatShow_72 : decode cX8_livesThatShow 72 = .ok (.ishl, 1) := by decide +kernel
theorem dX8_livesThatShow_73 : decode cX8_livesThatShow 73 = .ok (.ior, 1) := by decide +kernel
theorem dX8_livesThatShow_74 : decode cX8_livesThatShow 74 = .ok (.istore 5, 2) := by decide +kernel
theorem dX8_livesThatShow_76 : decode cX8_livesThatShow 76 = .ok (.iinc 6 1, 3) := by decide +kernel
theorem dX8_livesThatShow_79 : decode cX8_livesThatShow 79 = .ok (.goto (-58), 3) := by decide +kernel
theorem dX8_livesThatShow_82 : decode cX8_livesThatShow 82 = .ok (.iload 5, 2) := by decide +kernel
theorem dX8_livesThatShow_84 : decode cX8_livesThatShow 84 = .ok (.ireturn, 1) := by decide +kernel
theorem dX8_hasFoundYear_0 : decode cX8_hasFoundYear 0 = .ok (.aload_n 0, 1) := by decide +kernel
theorem dX8_hasFoundYear_1 : decode cX8_hasFoundYear 1 = .ok (.aload_n 1, 1) := by decide +kernel
theorem dX8_hasFoundYear_2 : decode cX8_hasFoundYear 2 = .ok (.iload_n 2, 1) := by decide +kernel
theorem dX8_hasFoundYear_3 : decode cX8_hasFoundYear 3 = .ok (.invokevirtual 69, 3) := by decide +kernel
theorem dX8_hasFoundYear_6 : decode cX8_hasFoundYear 6 = .ok (.istore_n 3, 1) := by decide +kernel
theorem dX8_hasFoundYear_7 : decode cX8_hasFoundYear 7 = .ok (.aload_n 1, 1) := by decide +kernel
theorem dX8_hasFoundYear_8 : decode cX8_hasFoundYear 8 = .ok (.iload_n 2, 1) := by decide +kernel
theorem dX8_hasFoundYear_9 : decode cX8_hasFoundYear 9 = .ok (.invokevirtual 28, 3) := by decide +kernel
theorem dX8_hasFoundYear_12 : decode cX8_hasFoundYear 12 = .ok (.istore 4, 2) := by decide +kernel
theorem dX8_hasFoundYear_14 : decode cX8_hasFoundYear 14 = .ok (.aload_n 0, 1) := by decide +kernel
theorem dX8_hasFoundYear_15 : decode cX8_hasFoundYear 15 = .ok (.iconst 0, 1) := by decide +kernel
theorem dX8_hasFoundYear_16 : decode cX8_hasFoundYear 16 = .ok (.putfield 73, 3) := by decide +kernel
theorem dX8_hasFoundYear_19 : decode cX8_hasFoundYear 19 = .ok (.aload_n 0, 1) := by decide +kernel
theorem dX8_hasFoundYear_20 : decode cX8_hasFoundYear 20 = .ok (.bipush 10, 2) := by decide +kernel
theorem dX8_hasFoundYear_22 : decode cX8_hasFoundYear 22 = .ok (.putfield 76, 3) := by decide +kernel
theorem dX8_hasFoundYear_25 : decode cX8_hasFoundYear 25 = .ok (.iconst 0, 1) := by decide +kernel
theorem dX8_hasFoundYear_26 : decode cX8_hasFoundYear 26 = .ok (.istore 5, 2) := by decide +kernel
theorem dX8_hasFoundYear_28 : decode cX8_hasFoundYear 28 = .ok (.iload 5, 2) := by decide +kernel
theorem dX8_hasFoundYear_30 : decode cX8_hasFoundYear 30 = .ok (.bipush 10, 2) := by decide +kernel
theorem dX8_hasFoundYear_32 : decode cX8_hasFoundYear 32 = .ok (.if_icmp .ge 55, 3) := by decide +kernel
theorem dX8_hasFoundYear_35 : decode cX8_hasFoundYear 35 = .ok (.aload_n 0, 1) := by decide +kernel
theorem dX8_hasFoundYear_36 : decode cX8_hasFoundYear 36 = .ok (.getfield 9, 3) := by decide +kernel
theorem dX8_hasFoundYear_39 : decode cX8_hasFoundYear 39 = .ok (.aload_n 1, 1) := by decide +kernel
theorem dX8_hasFoundYear_40 : decode cX8_hasFoundYear 40 = .ok (.getfield 48, 3) := by decide +kernel
theorem dX8_hasFoundYear_43 : decode cX8_hasFoundYear 43 = .ok (.iconst 0, 1) := by decide +kernel
theorem dX8_hasFoundYear_44 : decode cX8_hasFoundYear 44 = .ok (.iaload, 1) := by decide +kernel
theorem dX8_hasFoundYear_45 : decode cX8_hasFoundYear 45 = .ok (.iload 5, 2) := by decide +kernel
theorem dX8_hasFoundYear_47 : decode cX8_hasFoundYear 47 = .ok (.iadd, 1) := by decide +kernel
theorem dX8_hasFoundYear_48 : decode cX8_hasFoundYear 48 = .ok (.invokevirtual 51, 3) := by decide +kernel
theorem dX8_hasFoundYear_51 : decode cX8_hasFoundYear 51 = .ok (.aload_n 0, 1) := by decide +kernel
theorem dX8_hasFoundYear_52 : decode cX8_hasFoundYear 52 = .ok (.iload_n 3, 1) := by decide +kernel
theorem dX8_hasFoundYear_53 : decode cX8_hasFoundYear 53 = .ok (.iload 4, 2) := by decide +kernel
theorem dX8_hasFoundYear_55 : decode cX8_hasFoundYear 55 = .ok (.invokevirtual 79, 3) := by decide +kernel
theorem dX8_hasFoundYear_58 : decode cX8_hasFoundYear 58 = .ok (.istore 6, 2) := by decide +kernel
theorem dX8_hasFoundYear_60 : decode cX8_hasFoundYear 60 = .ok (.iload 6, 2) := by decide +kernel
theorem dX8_hasFoundYear_62 : decode cX8_hasFoundYear 62 = .ok (.aload_n 0, 1) := by decide +kernel
theorem dX8_hasFoundYear_63 : decode cX8_hasFoundYear 63 = .ok (.getfield 76, 3) := by decide +kernel
theorem dX8_hasFoundYear_66 : decode cX8_hasFoundYear 66 = .ok (.if_icmp .ge 15, 3) := by decide +kernel
theorem dX8_hasFoundYear_69 : decode cX8_hasFoundYear 69 = .ok (.aload_n 0, 1) := by decide +kernel
theorem dX8_hasFoundYear_70 : decode cX8_hasFoundYear 70 = .ok (.iload 6, 2) := by decide +kernel
theorem dX8_hasFoundYear_72 : decode cX8_hasFoundYear 72 = .ok (.putfield 76, 3) := by decide +kernel
theorem dX8_hasFoundYear_75 : decode cX8_hasFoundYear 75 = .ok (.aload_n 0, 1) := by decide +kernel
theorem dX8_hasFoundYear_76 : decode cX8_hasFoundYear 76 = .ok (.iload 5, 2) := by decide +kernel
theorem dX8_hasFoundYear_78 : decode cX8_hasFoundYear 78 = .ok (.putfield 73, 3) := by decide +kernel
theorem dX8_hasFoundYear_81 : decode cX8_hasFoundYear 81 = .ok (.iinc 5 1, 3) := by decide +kernel
theorem dX8_hasFoundYear_84 : decode cX8_hasFoundYear 84 = .ok (.goto (-56), 3) := by decide +kernel
theorem dX8_hasFoundYear_87 : decode cX8_hasFoundYear 87 = .ok (.iload_n 3, 1) := by decide +kernel
theorem dX8_hasFoundYear_88 : decode cX8_hasFoundYear 88 = .ok (.ifCond .eq 7, 3) := by decide +kernel
theorem dX8_hasFoundYear_91 : decode cX8_hasFoundYear 91 = .ok (.iconst 1, 1) := by decide +kernel
theorem dX8_hasFoundYear_92 : decode cX8_hasFoundYear 92 = .ok (.goto 4, 3) := by decide +kernel
theorem dX8_hasFoundYear_95 : decode cX8_hasFoundYear 95 = .ok (.iconst 0, 1) := by decide +kernel
theorem dX8_hasFoundYear_96 : decode cX8_hasFoundYear 96 = .ok (.ireturn, 1) := by decide +kernel
theorem dX8_mostAlike_0 : decode cX8_mostAlike 0 = .ok (.iconst 0, 1) := by decide +kernel
theorem dX8_mostAlike_1 : decode cX8_mostAlike 1 = .ok (.istore_n 3, 1) := by decide +kernel
theorem dX8_mostAlike_2 : decode cX8_mostAlike 2 = .ok (.aload_n 0, 1) := by decide +kernel
theorem dX8_mostAlike_3 : decode cX8_mostAlike 3 = .ok (.getfield 19, 3) := by decide +kernel
theorem dX8_mostAlike_6 : decode cX8_mostAlike 6 = .ok (.iconst 0, 1) := by decide +kernel
theorem dX8_mostAlike_7 : decode cX8_mostAlike 7 = .ok (.invokestatic 83, 3) := by decide +kernel
theorem dX8_mostAlike_10 : decode cX8_mostAlike 10 = .ok (.iconst 0, 1) := by decide +kernel
theorem dX8_mostAlike_11 : decode cX8_mostAlike 11 = .ok (.istore 4, 2) := by decide +kernel
theorem dX8_mostAlike_13 : decode cX8_mostAlike 13 = .ok (.iload 4, 2) := by decide +kernel
theorem dX8_mostAlike_15 : decode cX8_mostAlike 15 = .ok (.bipush 9, 2) := by decide +kernel
theorem dX8_mostAlike_17 : decode cX8_mostAlike 17 = .ok (.if_icmp .ge 63, 3) := by decide +kernel
theorem dX8_mostAlike_20 : decode cX8_mostAlike 20 = .ok (.iload_n 1, 1) := by decide +kernel
theorem dX8_mostAlike_21 : decode cX8_mostAlike 21 = .ok (.iload 4, 2) := by decide +kernel
theorem dX8_mostAlike_23 : decode cX8_mostAlike 23 = .ok (.invokestatic 55, 3) := by decide +kernel
theorem dX8_mostAlike_26 : decode cX8_mostAlike 26 = .ok (.ifCond .eq 48, 3) := by decide +kernel
theorem dX8_mostAlike_29 : decode cX8_mostAlike 29 = .ok (.aload_n 0, 1) := by decide +kernel
theorem dX8_mostAlike_30 : decode cX8_mostAlike 30 = .ok (.getfield 9, 3) := by decide +kernel
theorem dX8_mostAlike_33 : decode cX8_mostAlike 33 = .ok (.iload 4, 2) := by decide +kernel
theorem dX8_mostAlike_35 : decode cX8_mostAlike 35 = .ok (.iload_n 2, 1) := by decide +kernel
theorem dX8_mostAlike_36 : decode cX8_mostAlike 36 = .ok (.invokevirtual 59, 3) := by decide +kernel
theorem dX8_mostAlike_39 : decode cX8_mostAlike 39 = .ok (.aload_n 0, 1) := by decide +kernel
theorem dX8_mostAlike_40 : decode cX8_mostAlike 40 = .ok (.getfield 9, 3) := by decide +kernel
theorem dX8_mostAlike_43 : decode cX8_mostAlike 43 = .ok (.sipush 265, 3) := by decide +kernel
theorem dX8_mostAlike_46 : decode cX8_mostAlike 46 = .ok (.invokevirtual 63, 3) := by decide +kernel
theorem dX8_mostAlike_49 : decode cX8_mostAlike 49 = .ok (.istore 5, 2) := by decide +kernel
theorem dX8_mostAlike_51 : decode cX8_mostAlike 51 = .ok (.aload_n 0, 1) := by decide +kernel
theorem dX8_mostAlike_52 : decode cX8_mostAlike 52 = .ok (.getfield 19, 3) := by decide +kernel
theorem dX8_mostAlike_55 : decode cX8_mostAlike 55 = .ok (.iload 5, 2) := by decide +kernel
theorem dX8_mostAlike_57 : decode cX8_mostAlike 57 = .ok (.dup2, 1) := by decide +kernel
theorem dX8_mostAlike_58 : decode cX8_mostAlike 58 = .ok (.iaload, 1) := by decide +kernel
theorem dX8_mostAlike_59 : decode cX8_mostAlike 59 = .ok (.iconst 1, 1) := by decide +kernel
theorem dX8_mostAlike_60 : decode cX8_mostAlike 60 = .ok (.iadd, 1) := by decide +kernel
theorem dX8_mostAlike_61 : decode cX8_mostAlike 61 = .ok (.iastore, 1) := by decide +kernel
theorem dX8_mostAlike_62 : decode cX8_mostAlike 62 = .ok (.iload_n 3, 1) := by decide +kernel
theorem dX8_mostAlike_63 : decode cX8_mostAlike 63 = .ok (.aload_n 0, 1) := by decide +kernel
theorem dX8_mostAlike_64 : decode cX8_mostAlike 64 = .ok (.getfield 19, 3) := by decide +kernel
theorem dX8_mostAlike_67 : decode cX8_mostAlike 67 = .ok (.iload 5, 2) := by decide +kernel
theorem dX8_mostAlike_69 : decode cX8_mostAlike 69 = .ok (.iaload, 1) := by decide +kernel
theorem dX8_mostAlike_70 : decode cX8_mostAlike 70 = .ok (.invokestatic 89, 3) := by decide +kernel
theorem dX8_mostAlike_73 : decode cX8_mostAlike 73 = .ok (.istore_n 3, 1) := by decide +kernel
theorem dX8_mostAlike_74 : decode cX8_mostAlike 74 = .ok (.iinc 4 1, 3) := by decide +kernel
theorem dX8_mostAlike_77 : decode cX8_mostAlike 77 = .ok (.goto (-64), 3) := by decide +kernel
theorem dX8_mostAlike_80 : decode cX8_mostAlike 80 = .ok (.iload_n 3, 1) := by decide +kernel
theorem dX8_mostAlike_81 : decode cX8_mostAlike 81 = .ok (.ireturn, 1) := by decide +kernel
theorem dX8_fewestLives_0 : decode cX8_fewestLives 0 = .ok (.aload_n 1, 1) := by decide +kernel
theorem dX8_fewestLives_1 : decode cX8_fewestLives 1 = .ok (.getfield 40, 3) := by decide +kernel
theorem dX8_fewestLives_4 : decode cX8_fewestLives 4 = .ok (.ifCond .ne 5, 3) := by decide +kernel
theorem dX8_fewestLives_7 : decode cX8_fewestLives 7 = .ok (.iconst 0, 1) := by decide +kernel
theorem dX8_fewestLives_8 : decode cX8_fewestLives 8 = .ok (.ireturn, 1) := by decide +kernel
theorem dX8_fewestLives_9 : decode cX8_fewestLives 9 = .ok (.aload_n 1, 1) := by decide +kernel
theorem dX8_fewestLives_10 : decode cX8_fewestLives 10 = .ok (.getfield 94, 3) := by decide +kernel
theorem dX8_fewestLives_13 : decode cX8_fewestLives 13 = .ok (.iload_n 2, 1) := by decide +kernel
theorem dX8_fewestLives_14 : decode cX8_fewestLives 14 = .ok (.iaload, 1) := by decide +kernel
theorem dX8_fewestLives_15 : decode cX8_fewestLives 15 = .ok (.istore_n 3, 1) := by decide +kernel
theorem dX8_fewestLives_16 : decode cX8_fewestLives 16 = .ok (.aload_n 0, 1) := by decide +kernel
theorem dX8_fewestLives_17 : decode cX8_fewestLives 17 = .ok (.aload_n 1, 1) := by decide +kernel
theorem dX8_fewestLives_18 : decode cX8_fewestLives 18 = .ok (.iload_n 2, 1) := by decide +kernel
theorem dX8_fewestLives_19 : decode cX8_fewestLives 19 = .ok (.invokevirtual 97, 3) := by decide +kernel
theorem dX8_fewestLives_22 : decode cX8_fewestLives 22 = .ok (.aload_n 0, 1) := by decide +kernel
theorem dX8_fewestLives_23 : decode cX8_fewestLives 23 = .ok (.getfield 25, 3) := by decide +kernel
theorem dX8_fewestLives_26 : decode cX8_fewestLives 26 = .ok (.iconst 0, 1) := by decide +kernel
theorem dX8_fewestLives_27 : decode cX8_fewestLives 27 = .ok (.invokestatic 83, 3) := by decide +kernel
theorem dX8_fewestLives_30 : decode cX8_fewestLives 30 = .ok (.aload_n 0, 1) := by decide +kernel
theorem dX8_fewestLives_31 : decode cX8_fewestLives 31 = .ok (.getfield 25, 3) := by decide +kernel
theorem dX8_fewestLives_34 : decode cX8_fewestLives 34 = .ok (.iconst 0, 1) := by decide +kernel
theorem dX8_fewestLives_35 : decode cX8_fewestLives 35 = .ok (.aload_n 0, 1) := by decide +kernel
theorem dX8_fewestLives_36 : decode cX8_fewestLives 36 = .ok (.getfield 22, 3) := by decide +kernel
theorem dX8_fewestLives_39 : decode cX8_fewestLives 39 = .ok (.iconst 0, 1) := by decide +kernel
theorem dX8_fewestLives_40 : decode cX8_fewestLives 40 = .ok (.iaload, 1) := by decide +kernel
theorem dX8_fewestLives_41 : decode cX8_fewestLives 41 = .ok (.iastore, 1) := by decide +kernel
theorem dX8_fewestLives_42 : decode cX8_fewestLives 42 = .ok (.iconst 1, 1) := by decide +kernel
theorem dX8_fewestLives_43 : decode cX8_fewestLives 43 = .ok (.istore 4, 2) := by decide +kernel
theorem dX8_fewestLives_45 : decode cX8_fewestLives 45 = .ok (.iload 4, 2) := by decide +kernel
theorem dX8_fewestLives_47 : decode cX8_fewestLives 47 = .ok (.aload_n 1, 1) := by decide +kernel
theorem dX8_fewestLives_48 : decode cX8_fewestLives 48 = .ok (.getfield 40, 3) := by decide +kernel
theorem dX8_fewestLives_51 : decode cX8_fewestLives 51 = .ok (.if_icmp .ge 16, 3) := by decide +kernel
theorem dX8_fewestLives_54 : decode cX8_fewestLives 54 = .ok (.aload_n 0, 1) := by decide +kernel
theorem dX8_fewestLives_55 : decode cX8_fewestLives 55 = .ok (.iload 4, 2) := by decide +kernel
theorem dX8_fewestLives_57 : decode cX8_fewestLives 57 = .ok (.iload_n 3, 1) := by decide +kernel
theorem dX8_fewestLives_58 : decode cX8_fewestLives 58 = .ok (.invokevirtual 100, 3) := by decide +kernel
theorem dX8_fewestLives_61 : decode cX8_fewestLives 61 = .ok (.iinc 4 1, 3) := by decide +kernel
theorem dX8_fewestLives_64 : decode cX8_fewestLives 64 = .ok (.goto (-19), 3) := by decide +kernel
theorem dX8_fewestLives_67 : decode cX8_fewestLives 67 = .ok (.iconst (-1), 1) := by decide +kernel
theorem dX8_fewestLives_68 : decode cX8_fewestLives 68 = .ok (.istore 4, 2) := by decide +kernel
theorem dX8_fewestLives_70 : decode cX8_fewestLives 70 = .ok (.iconst 0, 1) := by decide +kernel
theorem dX8_fewestLives_71 : decode cX8_fewestLives 71 = .ok (.istore 5, 2) := by decide +kernel
theorem dX8_fewestLives_73 : decode cX8_fewestLives 73 = .ok (.iload 5, 2) := by decide +kernel
theorem dX8_fewestLives_75 : decode cX8_fewestLives 75 = .ok (.iload_n 3, 1) := by decide +kernel
theorem dX8_fewestLives_76 : decode cX8_fewestLives 76 = .ok (.if_icmp .gt 45, 3) := by decide +kernel
theorem dX8_fewestLives_79 : decode cX8_fewestLives 79 = .ok (.iconst 1, 1) := by decide +kernel
theorem dX8_fewestLives_80 : decode cX8_fewestLives 80 = .ok (.iload 5, 2) := by decide +kernel
theorem dX8_fewestLives_82 : decode cX8_fewestLives 82 = .ok (.invokestatic 103, 3) := by decide +kernel
theorem dX8_fewestLives_85 : decode cX8_fewestLives 85 = .ok (.iadd, 1) := by decide +kernel
theorem dX8_fewestLives_86 : decode cX8_fewestLives 86 = .ok (.istore 6, 2) := by decide +kernel
theorem dX8_fewestLives_88 : decode cX8_fewestLives 88 = .ok (.aload_n 0, 1) := by decide +kernel
theorem dX8_fewestLives_89 : decode cX8_fewestLives 89 = .ok (.getfield 25, 3) := by decide +kernel
theorem dX8_fewestLives_92 : decode cX8_fewestLives 92 = .ok (.iload 5, 2) := by decide +kernel
theorem dX8_fewestLives_94 : decode cX8_fewestLives 94 = .ok (.iaload, 1) := by decide +kernel
theorem dX8_fewestLives_95 : decode cX8_fewestLives 95 = .ok (.ifCond .eq 20, 3) := by decide +kernel
theorem dX8_fewestLives_98 : decode cX8_fewestLives 98 = .ok (.iload 4, 2) := by decide +kernel
theorem dX8_fewestLives_100 : decode cX8_fewestLives 100 = .ok (.iconst (-1), 1) := by decide +kernel
theorem dX8_fewestLives_101 : decode cX8_fewestLives 101 = .ok (.if_icmp .eq 10, 3) := by decide +kernel
theorem dX8_fewestLives_104 : decode cX8_fewestLives 104 = .ok (.iload 6, 2) := by decide +kernel
theorem dX8_fewestLives_106 : decode cX8_fewestLives 106 = .ok (.iload 4, 2) := by decide +kernel
theorem dX8_fewestLives_108 : decode cX8_fewestLives 108 = .ok (.if_icmp .ge 7, 3) := by decide +kernel
theorem dX8_fewestLives_111 : decode cX8_fewestLives 111 = .ok (.iload 6, 2) := by decide +kernel
theorem dX8_fewestLives_113 : decode cX8_fewestLives 113 = .ok (.istore 4, 2) := by decide +kernel
theorem dX8_fewestLives_115 : decode cX8_fewestLives 115 = .ok (.iinc 5 1, 3) := by decide +kernel
theorem dX8_fewestLives_118 : decode cX8_fewestLives 118 = .ok (.goto (-45), 3) := by decide +kernel
theorem dX8_fewestLives_121 : decode cX8_fewestLives 121 = .ok (.iload 4, 2) := by decide +kernel
theorem dX8_fewestLives_123 : decode cX8_fewestLives 123 = .ok (.ireturn, 1) := by decide +kernel
theorem dX8_findFitting_0 : decode cX8_findFitting 0 = .ok (.aload_n 1, 1) := by decide +kernel
theorem dX8_findFitting_1 : decode cX8_findFitting 1 = .ok (.iload_n 2, 1) := by decide +kernel
theorem dX8_findFitting_2 : decode cX8_findFitting 2 = .ok (.invokevirtual 28, 3) := by decide +kernel
theorem dX8_findFitting_5 : decode cX8_findFitting 5 = .ok (.istore_n 3, 1) := by decide +kernel
theorem dX8_findFitting_6 : decode cX8_findFitting 6 = .ok (.aload_n 1, 1) := by decide +kernel
theorem dX8_findFitting_7 : decode cX8_findFitting 7 = .ok (.getfield 94, 3) := by decide +kernel
theorem dX8_findFitting_10 : decode cX8_findFitting 10 = .ok (.iload_n 2, 1) := by decide +kernel
theorem dX8_findFitting_11 : decode cX8_findFitting 11 = .ok (.iaload, 1) := by decide +kernel
theorem dX8_findFitting_12 : decode cX8_findFitting 12 = .ok (.invokestatic 103, 3) := by decide +kernel
theorem dX8_findFitting_15 : decode cX8_findFitting 15 = .ok (.istore 4, 2) := by decide +kernel
theorem dX8_findFitting_17 : decode cX8_findFitting 17 = .ok (.aload_n 0, 1) := by decide +kernel
theorem dX8_findFitting_18 : decode cX8_findFitting 18 = .ok (.getfield 9, 3) := by decide +kernel
theorem dX8_findFitting_21 : decode cX8_findFitting 21 = .ok (.aload_n 1, 1) := by decide +kernel
theorem dX8_findFitting_22 : decode cX8_findFitting 22 = .ok (.iload_n 2, 1) := by decide +kernel
theorem dX8_findFitting_23 : decode cX8_findFitting 23 = .ok (.invokevirtual 34, 3) := by decide +kernel
theorem dX8_findFitting_26 : decode cX8_findFitting 26 = .ok (.iconst 0, 1) := by decide +kernel
theorem dX8_findFitting_27 : decode cX8_findFitting 27 = .ok (.istore 5, 2) := by decide +kernel
theorem dX8_findFitting_29 : decode cX8_findFitting 29 = .ok (.iload 5, 2) := by decide +kernel
theorem dX8_findFitting_31 : decode cX8_findFitting 31 = .ok (.iload 4, 2) := by decide +kernel
theorem dX8_findFitting_33 : decode cX8_findFitting 33 = .ok (.if_icmp .gt 85, 3) := by decide +kernel
theorem dX8_findFitting_36 : decode cX8_findFitting 36 = .ok (.iload 5, 2) := by decide +kernel
theorem dX8_findFitting_38 : decode cX8_findFitting 38 = .ok (.bipush 9, 2) := by decide +kernel
theorem dX8_findFitting_40 : decode cX8_findFitting 40 = .ok (.if_icmp .ge 78, 3) := by decide +kernel
theorem dX8_findFitting_43 : decode cX8_findFitting 43 = .ok (.iload 5, 2) := by decide +kernel
theorem dX8_findFitting_45 : decode cX8_findFitting 45 = .ok (.ifCond .ne 14, 3) := by decide +kernel
theorem dX8_findFitting_48 : decode cX8_findFitting 48 = .ok (.iconst 1, 1) := by decide +kernel
theorem dX8_findFitting_49 : decode cX8_findFitting 49 = .ok (.aload_n 1, 1) := by decide +kernel
theorem dX8_findFitting_50 : decode cX8_findFitting 50 = .ok (.getfield 108, 3) := by decide +kernel
theorem dX8_findFitting_53 : decode cX8_findFitting 53 = .ok (.iload_n 2, 1) := by decide +kernel
theorem dX8_findFitting_54 : decode cX8_findFitting 54 = .ok (.iaload, 1) := by decide +kernel
theorem dX8_findFitting_55 : decode cX8_findFitting 55 = .ok (.ishl, 1) := by decide +kernel
theorem dX8_findFitting_56 : decode cX8_findFitting 56 = .ok (.goto 9, 3) := by decide +kernel
theorem dX8_findFitting_59 : decode cX8_findFitting 59 = .ok (.aload_n 1, 1) := by decide +kernel
theorem dX8_findFitting_60 : decode cX8_findFitting 60 = .ok (.getfield 94, 3) := by decide +kernel
theorem dX8_findFitting_63 : decode cX8_findFitting 63 = .ok (.iload_n 2, 1) := by decide +kernel
theorem dX8_findFitting_64 : decode cX8_findFitting 64 = .ok (.iaload, 1) := by decide +kernel
theorem dX8_findFitting_65 : decode cX8_findFitting 65 = .ok (.istore 6, 2) := by decide +kernel
theorem dX8_findFitting_67 : decode cX8_findFitting 67 = .ok (.iload 5, 2) := by decide +kernel
theorem dX8_findFitting_69 : decode cX8_findFitting 69 = .ok (.istore 7, 2) := by decide +kernel
theorem dX8_findFitting_71 : decode cX8_findFitting 71 = .ok (.iload 7, 2) := by decide +kernel
theorem dX8_findFitting_73 : decode cX8_findFitting 73 = .ok (.aload_n 1, 1) := by decide +kernel
theorem dX8_findFitting_74 : decode cX8_findFitting 74 = .ok (.getfield 40, 3) := by decide +kernel
theorem dX8_findFitting_77 : decode cX8_findFitting 77 = .ok (.if_icmp .ge 35, 3) := by decide +kernel
theorem dX8_findFitting_80 : decode cX8_findFitting 80 = .ok (.aload_n 0, 1) := by decide +kernel
theorem dX8_findFitting_81 : decode cX8_findFitting 81 = .ok (.getfield 22, 3) := by decide +kernel
theorem dX8_findFitting_84 : decode cX8_findFitting 84 = .ok (.iload 5, 2) := by decide +kernel
theorem dX8_findFitting_86 : decode cX8_findFitting 86 = .ok (.bipush 8, 2) := by decide +kernel
theorem dX8_findFitting_88 : decode cX8_findFitting 88 = .ok (.imul, 1) := by decide +kernel
theorem dX8_findFitting_89 : decode cX8_findFitting 89 = .ok (.iload 7, 2) := by decide +kernel
theorem dX8_findFitting_91 : decode cX8_findFitting 91 = .ok (.iadd, 1) := by decide +kernel
theorem dX8_findFitting_92 : decode cX8_findFitting 92 = .ok (.aload_n 0, 1) := by decide +kernel
theorem dX8_findFitting_93 : decode cX8_findFitting 93 = .ok (.aload_n 1, 1) := by decide +kernel
theorem dX8_findFitting_94 : decode cX8_findFitting 94 = .ok (.iload 7, 2) := by decide +kernel
theorem dX8_findFitting_96 : decode cX8_findFitting 96 = .ok (.iload 6, 2) := by decide +kernel
theorem dX8_findFitting_98 : decode cX8_findFitting 98 = .ok (.iload_n 3, 1) := by decide +kernel
theorem dX8_findFitting_99 : decode cX8_findFitting 99 = .ok (.iload 5, 2) := by decide +kernel
theorem dX8_findFitting_101 : decode cX8_findFitting 101 = .ok (.iadd, 1) := by decide +kernel
theorem dX8_findFitting_102 : decode cX8_findFitting 102 = .ok (.invokevirtual 44, 3) := by decide +kernel
theorem dX8_findFitting_105 : decode cX8_findFitting 105 = .ok (.iastore, 1) := by decide +kernel
theorem dX8_findFitting_106 : decode cX8_findFitting 106 = .ok (.iinc 7 1, 3) := by decide +kernel
theorem dX8_findFitting_109 : decode cX8_findFitting 109 = .ok (.goto (-38), 3) := by decide +kernel
theorem dX8_findFitting_112 : decode cX8_findFitting 112 = .ok (.iinc 5 1, 3) := by decide +kernel
theorem dX8_findFitting_115 : decode cX8_findFitting 115 = .ok (.goto (-86), 3) := by decide +kernel
theorem dX8_findFitting_118 : decode cX8_findFitting 118 = .ok (.return_, 1) := by decide +kernel
theorem dX8_addDoing_0 : decode cX8_addDoing 0 = .ok (.iload_n 2, 1) := by decide +kernel
theorem dX8_addDoing_1 : decode cX8_addDoing 1 = .ok (.istore_n 3, 1) := by decide +kernel
theorem dX8_addDoing_2 : decode cX8_addDoing 2 = .ok (.iload_n 3, 1) := by decide +kernel
theorem dX8_addDoing_3 : decode cX8_addDoing 3 = .ok (.ifCond .le 56, 3) := by decide +kernel
theorem dX8_addDoing_6 : decode cX8_addDoing 6 = .ok (.iload_n 3, 1) := by decide +kernel
theorem dX8_addDoing_7 : decode cX8_addDoing 7 = .ok (.iload_n 2, 1) := by decide +kernel
theorem dX8_addDoing_8 : decode cX8_addDoing 8 = .ok (.iconst (-1), 1) := by decide +kernel
theorem dX8_addDoing_9 : decode cX8_addDoing 9 = .ok (.ixor, 1) := by decide +kernel
theorem dX8_addDoing_10 : decode cX8_addDoing 10 = .ok (.iand, 1) := by decide +kernel
theorem dX8_addDoing_11 : decode cX8_addDoing 11 = .ok (.ifCond .ne 42, 3) := by decide +kernel
theorem dX8_addDoing_14 : decode cX8_addDoing 14 = .ok (.aload_n 0, 1) := by decide +kernel
theorem dX8_addDoing_15 : decode cX8_addDoing 15 = .ok (.getfield 22, 3) := by decide +kernel
theorem dX8_addDoing_18 : decode cX8_addDoing 18 = .ok (.iload_n 3, 1) := by decide +kernel
theorem dX8_addDoing_19 : decode cX8_addDoing 19 = .ok (.invokestatic 103, 3) := by decide +kernel
theorem dX8_addDoing_22 : decode cX8_addDoing 22 = .ok (.bipush 8, 2) := by decide +kernel
theorem dX8_addDoing_24 : decode cX8_addDoing 24 = .ok (.imul, 1) := by decide +kernel
theorem dX8_addDoing_25 : decode cX8_addDoing 25 = .ok (.iload_n 1, 1) := by decide +kernel
theorem dX8_addDoing_26 : decode cX8_addDoing 26 = .ok (.iadd, 1) := by decide +kernel
theorem dX8_addDoing_27 : decode cX8_addDoing 27 = .ok (.iaload, 1) := by decide +kernel
theorem dX8_addDoing_28 : decode cX8_addDoing 28 = .ok (.iload_n 3, 1) := by decide +kernel
theorem dX8_addDoing_29 : decode cX8_addDoing 29 = .ok (.iand, 1) := by decide +kernel
theorem dX8_addDoing_30 : decode cX8_addDoing 30 = .ok (.istore 4, 2) := by decide +kernel
theorem dX8_addDoing_32 : decode cX8_addDoing 32 = .ok (.aload_n 0, 1) := by decide +kernel
theorem dX8_addDoing_33 : decode cX8_addDoing 33 = .ok (.getfield 25, 3) := by decide +kernel
theorem dX8_addDoing_36 : decode cX8_addDoing 36 = .ok (.iload_n 3, 1) := by decide +kernel
theorem dX8_addDoing_37 : decode cX8_addDoing 37 = .ok (.iload 4, 2) := by decide +kernel
theorem dX8_addDoing_39 : decode cX8_addDoing 39 = .ok (.aload_n 0, 1) := by decide +kernel
theorem dX8_addDoing_40 : decode cX8_addDoing 40 = .ok (.getfield 25, 3) := by decide +kernel
theorem dX8_addDoing_43 : decode cX8_addDoing 43 = .ok (.iload_n 3, 1) := by decide +kernel
theorem dX8_addDoing_44 : decode cX8_addDoing 44 = .ok (.iaload, 1) := by decide +kernel
theorem dX8_addDoing_45 : decode cX8_addDoing 45 = .ok (.aload_n 0, 1) := by decide +kernel
theorem dX8_addDoing_46 : decode cX8_addDoing 46 = .ok (.iload_n 3, 1) := by decide +kernel
theorem dX8_addDoing_47 : decode cX8_addDoing 47 = .ok (.invokevirtual 111, 3) := by decide +kernel
theorem dX8_addDoing_50 : decode cX8_addDoing 50 = .ok (.ior, 1) := by decide +kernel
theorem dX8_addDoing_51 : decode cX8_addDoing 51 = .ok (.iand, 1) := by decide +kernel
theorem dX8_addDoing_52 : decode cX8_addDoing 52 = .ok (.iastore, 1) := by decide +kernel
theorem dX8_addDoing_53 : decode cX8_addDoing 53 = .ok (.iinc 3 (-1), 3) := by decide +kernel
theorem dX8_addDoing_56 : decode cX8_addDoing 56 = .ok (.goto (-54), 3) := by decide +kernel
theorem dX8_addDoing_59 : decode cX8_addDoing 59 = .ok (.aload_n 0, 1) := by decide +kernel
theorem dX8_addDoing_60 : decode cX8_addDoing 60 = .ok (.getfield 25, 3) := by decide +kernel
theorem dX8_addDoing_63 : decode cX8_addDoing 63 = .ok (.iconst 0, 1) := by decide +kernel
theorem dX8_addDoing_64 : decode cX8_addDoing 64 = .ok (.dup2, 1) := by decide +kernel
theorem dX8_addDoing_65 : decode cX8_addDoing 65 = .ok (.iaload, 1) := by decide +kernel
theorem dX8_addDoing_66 : decode cX8_addDoing 66 = .ok (.aload_n 0, 1) := by decide +kernel
theorem dX8_addDoing_67 : decode cX8_addDoing 67 = .ok (.getfield 22, 3) := by decide +kernel
theorem dX8_addDoing_70 : decode cX8_addDoing 70 = .ok (.iload_n 1, 1) := by decide +kernel
theorem dX8_addDoing_71 : decode cX8_addDoing 71 = .ok (.iaload, 1) := by decide +kernel
theorem dX8_addDoing_72 : decode cX8_addDoing 72 = .ok (.iand, 1) := by decide +kernel
theorem dX8_addDoing_73 : decode cX8_addDoing 73 = .ok (.iastore, 1) := by decide +kernel
theorem dX8_addDoing_74 : decode cX8_addDoing 74 = .ok (.return_, 1) := by decide +kernel
theorem dX8_newlyTaken_0 : decode cX8_newlyTaken 0 = .ok (.iconst 0, 1) := by decide +kernel
theorem dX8_newlyTaken_1 : decode cX8_newlyTaken 1 = .ok (.istore_n 2, 1) := by decide +kernel
theorem dX8_newlyTaken_2 : decode cX8_newlyTaken 2 = .ok (.iconst 0, 1) := by decide +kernel
theorem dX8_newlyTaken_3 : decode cX8_newlyTaken 3 = .ok (.istore_n 3, 1) := by decide +kernel
theorem dX8_newlyTaken_4 : decode cX8_newlyTaken 4 = .ok (.iload_n 3, 1) := by decide +kernel
theorem dX8_newlyTaken_5 : decode cX8_newlyTaken 5 = .ok (.bipush 9, 2) := by decide +kernel
theorem dX8_newlyTaken_7 : decode cX8_newlyTaken 7 = .ok (.if_icmp .ge 38, 3) := by decide +kernel
theorem dX8_newlyTaken_10 : decode cX8_newlyTaken 10 = .ok (.iload_n 1, 1) := by decide +kernel
theorem dX8_newlyTaken_11 : decode cX8_newlyTaken 11 = .ok (.iload_n 3, 1) := by decide +kernel
theorem dX8_newlyTaken_12 : decode cX8_newlyTaken 12 = .ok (.invokestatic 55, 3) := by decide +kernel
theorem dX8_newlyTaken_15 : decode cX8_newlyTaken 15 = .ok (.ifCond .eq 24, 3) := by decide +kernel
theorem dX8_newlyTaken_18 : decode cX8_newlyTaken 18 = .ok (.aload_n 0, 1) := by decide +kernel
theorem dX8_newlyTaken_19 : decode cX8_newlyTaken 19 = .ok (.getfield 25, 3) := by decide +kernel
theorem dX8_newlyTaken_22 : decode cX8_newlyTaken 22 = .ok (.iload_n 1, 1) := by decide +kernel
theorem dX8_newlyTaken_23 : decode cX8_newlyTaken 23 = .ok (.iconst 1, 1) := by decide +kernel
theorem dX8_newlyTaken_24 : decode cX8_newlyTaken 24 = .ok (.iload_n 3, 1) := by decide +kernel
theorem dX8_newlyTaken_25 : decode cX8_newlyTaken 25 = .ok (.ishl, 1) := by decide +kernel
theorem dX8_newlyTaken_26 : decode cX8_newlyTaken 26 = .ok (.iconst (-1), 1) := by decide +kernel
theorem dX8_newlyTaken_27 : decode cX8_newlyTaken 27 = .ok (.ixor, 1) := by decide +kernel
theorem dX8_newlyTaken_28 : decode cX8_newlyTaken 28 = .ok (.iand, 1) := by decide +kernel
theorem dX8_newlyTaken_29 : decode cX8_newlyTaken 29 = .ok (.iaload, 1) := by decide +kernel
theorem dX8_newlyTaken_30 : decode cX8_newlyTaken 30 = .ok (.ifCond .eq 9, 3) := by decide +kernel
theorem dX8_newlyTaken_33 : decode cX8_newlyTaken 33 = .ok (.iload_n 2, 1) := by decide +kernel
theorem dX8_newlyTaken_34 : decode cX8_newlyTaken 34 = .ok (.iconst 1, 1) := by decide +kernel
theorem dX8_newlyTaken_35 : decode cX8_newlyTaken 35 = .ok (.iload_n 3, 1) := by decide +kernel
theorem dX8_newlyTaken_36 : decode cX8_newlyTaken 36 = .ok (.ishl, 1) := by decide +kernel
theorem dX8_newlyTaken_37 : decode cX8_newlyTaken 37 = .ok (.ior, 1) := by decide +kernel
theorem dX8_newlyTaken_38 : decode cX8_newlyTaken 38 = .ok (.istore_n 2, 1) := by decide +kernel
theorem dX8_newlyTaken_39 : decode cX8_newlyTaken 39 = .ok (.iinc 3 1, 3) := by decide +kernel
theorem dX8_newlyTaken_42 : decode cX8_newlyTaken 42 = .ok (.goto (-38), 3) := by decide +kernel
theorem dX8_newlyTaken_45 : decode cX8_newlyTaken 45 = .ok (.iload_n 2, 1) := by decide +kernel
theorem dX8_newlyTaken_46 : decode cX8_newlyTaken 46 = .ok (.ireturn, 1) := by decide +kernel
theorem dX8_lookAhead_0 : decode cX8_lookAhead 0 = .ok (.iconst 0, 1) := by decide +kernel
theorem dX8_lookAhead_1 : decode cX8_lookAhead 1 = .ok (.istore_n 2, 1) := by decide +kernel
theorem dX8_lookAhead_2 : decode cX8_lookAhead 2 = .ok (.iload_n 2, 1) := by decide +kernel
theorem dX8_lookAhead_3 : decode cX8_lookAhead 3 = .ok (.aload_n 1, 1) := by decide +kernel
theorem dX8_lookAhead_4 : decode cX8_lookAhead 4 = .ok (.getfield 114, 3) := by decide +kernel
theorem dX8_lookAhead_7 : decode cX8_lookAhead 7 = .ok (.if_icmp .ge 76, 3) := by decide +kernel
theorem dX8_lookAhead_10 : decode cX8_lookAhead 10 = .ok (.aload_n 1, 1) := by decide +kernel
theorem dX8_lookAhead_11 : decode cX8_lookAhead 11 = .ok (.iload_n 2, 1) := by decide +kernel
theorem dX8_lookAhead_12 : decode cX8_lookAhead 12 = .ok (.invokevirtual 117, 3) := by decide +kernel
theorem dX8_lookAhead_15 : decode cX8_lookAhead 15 = .ok (.ifCond .eq 62, 3) := by decide +kernel
theorem dX8_lookAhead_18 : decode cX8_lookAhead 18 = .ok (.aload_n 0, 1) := by decide +kernel
theorem dX8_lookAhead_19 : decode cX8_lookAhead 19 = .ok (.getfield 9, 3) := by decide +kernel
theorem dX8_lookAhead_22 : decode cX8_lookAhead 22 = .ok (.aload_n 1, 1) := by decide +kernel
theorem dX8_lookAhead_23 : decode cX8_lookAhead 23 = .ok (.iload_n 2, 1) := by decide +kernel
theorem dX8_lookAhead_24 : decode cX8_lookAhead 24 = .ok (.invokevirtual 34, 3) := by decide +kernel
theorem dX8_lookAhead_27 : decode cX8_lookAhead 27 = .ok (.iconst 0, 1) := by decide +kernel
theorem dX8_lookAhead_28 : decode cX8_lookAhead 28 = .ok (.istore_n 3, 1) := by decide +kernel
theorem dX8_lookAhead_29 : decode cX8_lookAhead 29 = .ok (.iload_n 3, 1) := by decide +kernel
theorem dX8_lookAhead_30 : decode cX8_lookAhead 30 = .ok (.bipush 10, 2) := by decide +kernel
theorem dX8_lookAhead_32 : decode cX8_lookAhead 32 = .ok (.if_icmp .ge 45, 3) := by decide +kernel
theorem dX8_lookAhead_35 : decode cX8_lookAhead 35 = .ok (.aload_n 0, 1) := by decide +kernel
theorem dX8_lookAhead_36 : decode cX8_lookAhead 36 = .ok (.getfield 9, 3) := by decide +kernel
theorem dX8_lookAhead_39 : decode cX8_lookAhead 39 = .ok (.aload_n 1, 1) := by decide +kernel
theorem dX8_lookAhead_40 : decode cX8_lookAhead 40 = .ok (.getfield 48, 3) := by decide +kernel
theorem dX8_lookAhead_43 : decode cX8_lookAhead 43 = .ok (.iconst 0, 1) := by decide +kernel
theorem dX8_lookAhead_44 : decode cX8_lookAhead 44 = .ok (.iaload, 1) := by decide +kernel
theorem dX8_lookAhead_45 : decode cX8_lookAhead 45 = .ok (.iload_n 3, 1) := by decide +kernel
theorem dX8_lookAhead_46 : decode cX8_lookAhead 46 = .ok (.iadd, 1) := by decide +kernel
theorem dX8_lookAhead_47 : decode cX8_lookAhead 47 = .ok (.invokevirtual 51, 3) := by decide +kernel
theorem dX8_lookAhead_50 : decode cX8_lookAhead 50 = .ok (.aload_n 0, 1) := by decide +kernel
theorem dX8_lookAhead_51 : decode cX8_lookAhead 51 = .ok (.getfield 15, 3) := by decide +kernel
theorem dX8_lookAhead_54 : decode cX8_lookAhead 54 = .ok (.iload_n 2, 1) := by decide +kernel
theorem dX8_lookAhead_55 : decode cX8_lookAhead 55 = .ok (.bipush 10, 2) := by decide +kernel
theorem dX8_lookAhead_57 : decode cX8_lookAhead 57 = .ok (.imul, 1) := by decide +kernel
theorem dX8_lookAhead_58 : decode cX8_lookAhead 58 = .ok (.iload_n 3, 1) := by decide +kernel
theorem dX8_lookAhead_59 : decode cX8_lookAhead 59 = .ok (.iadd, 1) := by decide +kernel
theorem dX8_lookAhead_60 : decode cX8_lookAhead 60 = .ok (.aload_n 0, 1) := by decide +kernel
theorem dX8_lookAhead_61 : decode cX8_lookAhead 61 = .ok (.getfield 9, 3) := by decide +kernel
theorem dX8_lookAhead_64 : decode cX8_lookAhead 64 = .ok (.sipush 265, 3) := by decide +kernel
theorem dX8_lookAhead_67 : decode cX8_lookAhead 67 = .ok (.invokevirtual 63, 3) := by decide +kernel
theorem dX8_lookAhead_70 : decode cX8_lookAhead 70 = .ok (.iastore, 1) := by decide +kernel
theorem dX8_lookAhead_71 : decode cX8_lookAhead 71 = .ok (.iinc 3 1, 3) := by decide +kernel
theorem dX8_lookAhead_74 : decode cX8_lookAhead 74 = .ok (.goto (-45), 3) := by decide +kernel
theorem dX8_lookAhead_77 : decode cX8_lookAhead 77 = .ok (.iinc 2 1, 3) := by decide +kernel
theorem dX8_lookAhead_80 : decode cX8_lookAhead 80 = .ok (.goto (-78), 3) := by decide +kernel
theorem dX8_lookAhead_83 : decode cX8_lookAhead 83 = .ok (.return_, 1) := by decide +kernel
theorem dX8_passForOneAnother_0 : decode cX8_passForOneAnother 0 = .ok (.aload_n 1, 1) := by decide +kernel
theorem dX8_passForOneAnother_1 : decode cX8_passForOneAnother 1 = .ok (.iload_n 2, 1) := by decide +kernel
theorem dX8_passForOneAnother_2 : decode cX8_passForOneAnother 2 = .ok (.invokevirtual 117, 3) := by decide +kernel
theorem dX8_passForOneAnother_5 : decode cX8_passForOneAnother 5 = .ok (.ifCond .eq 26, 3) := by decide +kernel
theorem dX8_passForOneAnother_8 : decode cX8_passForOneAnother 8 = .ok (.aload_n 1, 1) := by decide +kernel
theorem dX8_passForOneAnother_9 : decode cX8_passForOneAnother 9 = .ok (.iload_n 3, 1) := by decide +kernel
theorem dX8_passForOneAnother_10 : decode cX8_passForOneAnother 10 = .ok (.invokevirtual 117, 3) := by decide +kernel
theorem dX8_passForOneAnother_13 : decode cX8_passForOneAnother 13 = .ok (.ifCond .eq 18, 3) := by decide +kernel
theorem dX8_passForOneAnother_16 : decode cX8_passForOneAnother 16 = .ok (.aload_n 1, 1) := by decide +kernel
theorem dX8_passForOneAnother_17 : decode cX8_passForOneAnother 17 = .ok (.getfield 108, 3) := by decide +kernel
theorem dX8_passForOneAnother_20 : decode cX8_passForOneAnother 20 = .ok (.iload_n 2, 1) := by decide +kernel
theorem dX8_passForOneAnother_21 : decode cX8_passForOneAnother 21 = .ok (.iaload, 1) := by decide +kernel
theorem dX8_passForOneAnother_22 : decode cX8_passForOneAnother 22 = .ok (.aload_n 1, 1) := by decide +kernel
theorem dX8_passForOneAnother_23 : decode cX8_passForOneAnother 23 = .ok (.getfield 108, 3) := by decide +kernel
theorem dX8_passForOneAnother_26 : decode cX8_passForOneAnother 26 = .ok (.iload_n 3, 1) := by decide +kernel
theorem dX8_passForOneAnother_27 : decode cX8_passForOneAnother 27 = .ok (.iaload, 1) := by decide +kernel
theorem dX8_passForOneAnother_28 : decode cX8_passForOneAnother 28 = .ok (.if_icmp .ne 5, 3) := by decide +kernel
theorem dX8_passForOneAnother_31 : decode cX8_passForOneAnother 31 = .ok (.iconst 0, 1) := by decide +kernel
theorem dX8_passForOneAnother_32 : decode cX8_passForOneAnother 32 = .ok (.ireturn, 1) := by decide +kernel
theorem dX8_passForOneAnother_33 : decode cX8_passForOneAnother 33 = .ok (.iconst 0, 1) := by decide +kernel
theorem dX8_passForOneAnother_34 : decode cX8_passForOneAnother 34 = .ok (.istore 4, 2) := by decide +kernel
theorem dX8_passForOneAnother_36 : decode cX8_passForOneAnother 36 = .ok (.iload 4, 2) := by decide +kernel
theorem dX8_passForOneAnother_38 : decode cX8_passForOneAnother 38 = .ok (.bipush 10, 2) := by decide +kernel
theorem dX8_passForOneAnother_40 : decode cX8_passForOneAnother 40 = .ok (.if_icmp .ge 38, 3) := by decide +kernel
theorem dX8_passForOneAnother_43 : decode cX8_passForOneAnother 43 = .ok (.aload_n 0, 1) := by decide +kernel
theorem dX8_passForOneAnother_44 : decode cX8_passForOneAnother 44 = .ok (.getfield 15, 3) := by decide +kernel
theorem dX8_passForOneAnother_47 : decode cX8_passForOneAnother 47 = .ok (.iload_n 2, 1) := by decide +kernel
theorem dX8_passForOneAnother_48 : decode cX8_passForOneAnother 48 = .ok (.bipush 10, 2) := by decide +kernel
theorem dX8_passForOneAnother_50 : decode cX8_passForOneAnother 50 = .ok (.imul, 1) := by decide +kernel
theorem dX8_passForOneAnother_51 : decode cX8_passForOneAnother 51 = .ok (.iload 4, 2) := by decide +kernel
theorem dX8_passForOneAnother_53 : decode cX8_passForOneAnother 53 = .ok (.iadd, 1) := by decide +kernel
theorem dX8_passForOneAnother_54 : decode cX8_passForOneAnother 54 = .ok (.iaload, 1) := by decide +kernel
theorem dX8_passForOneAnother_55 : decode cX8_passForOneAnother 55 = .ok (.aload_n 0, 1) := by decide +kernel
theorem dX8_passForOneAnother_56 : decode cX8_passForOneAnother 56 = .ok (.getfield 15, 3) := by decide +kernel
theorem dX8_passForOneAnother_59 : decode cX8_passForOneAnother 59 = .ok (.iload_n 3, 1) := by decide +kernel
theorem dX8_passForOneAnother_60 : decode cX8_passForOneAnother 60 = .ok (.bipush 10, 2) := by decide +kernel
theorem dX8_passForOneAnother_62 : decode cX8_passForOneAnother 62 = .ok (.imul, 1) := by decide +kernel
theorem dX8_passForOneAnother_63 : decode cX8_passForOneAnother 63 = .ok (.iload 4, 2) := by decide +kernel
theorem dX8_passForOneAnother_65 : decode cX8_passForOneAnother 65 = .ok (.iadd, 1) := by decide +kernel
theorem dX8_passForOneAnother_66 : decode cX8_passForOneAnother 66 = .ok (.iaload, 1) := by decide +kernel
theorem dX8_passForOneAnother_67 : decode cX8_passForOneAnother 67 = .ok (.if_icmp .eq 5, 3) := by decide +kernel
theorem dX8_passForOneAnother_70 : decode cX8_passForOneAnother 70 = .ok (.iconst 0, 1) := by decide +kernel
theorem dX8_passForOneAnother_71 : decode cX8_passForOneAnother 71 = .ok (.ireturn, 1) := by decide +kernel
theorem dX8_passForOneAnother_72 : decode cX8_passForOneAnother 72 = .ok (.iinc 4 1, 3) := by decide +kernel
theorem dX8_passForOneAnother_75 : decode cX8_passForOneAnother 75 = .ok (.goto (-39), 3) := by decide +kernel
theorem dX8_passForOneAnother_78 : decode cX8_passForOneAnother 78 = .ok (.iconst 1, 1) := by decide +kernel
theorem dX8_passForOneAnother_79 : decode cX8_passForOneAnother 79 = .ok (.ireturn, 1) := by decide +kernel
