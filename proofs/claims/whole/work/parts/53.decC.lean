/-! instructions of the class, third -/
theorem dX11_init_0 : decode cX11_init 0 = .ok (.aload_n 0, 1) := by decide +kernel
theorem dX11_init_1 : decode cX11_init 1 = .ok (.invokespecial 3, 3) := by decide +kernel
theorem dX11_init_4 : decode cX11_init 4 = .ok (.new 9, 3) := by decide +kernel
theorem dX11_init_7 : decode cX11_init 7 = .ok (.dup, 1) := by decide +kernel
theorem dX11_init_8 : decode cX11_init 8 = .ok (.invokespecial 11, 3) := by decide +kernel
theorem dX11_init_11 : decode cX11_init 11 = .ok (.astore_n 1, 1) := by decide +kernel
theorem dX11_init_12 : decode cX11_init 12 = .ok (.aload_n 0, 1) := by decide +kernel
theorem dX11_init_13 : decode cX11_init 13 = .ok (.new 12, 3) := by decide +kernel
theorem dX11_init_16 : decode cX11_init 16 = .ok (.dup, 1) := by decide +kernel
theorem dX11_init_17 : decode cX11_init 17 = .ok (.invokespecial 14, 3) := by decide +kernel
theorem dX11_init_20 : decode cX11_init 20 = .ok (.putfield 15, 3) := by decide +kernel
theorem dX11_init_23 : decode cX11_init 23 = .ok (.aload_n 0, 1) := by decide +kernel
theorem dX11_init_24 : decode cX11_init 24 = .ok (.iconst 2, 1) := by decide +kernel
theorem dX11_init_25 : decode cX11_init 25 = .ok (.anewarray 12, 3) := by decide +kernel
theorem dX11_init_28 : decode cX11_init 28 = .ok (.putfield 21, 3) := by decide +kernel
theorem dX11_init_31 : decode cX11_init 31 = .ok (.aload_n 0, 1) := by decide +kernel
theorem dX11_init_32 : decode cX11_init 32 = .ok (.new 12, 3) := by decide +kernel
theorem dX11_init_35 : decode cX11_init 35 = .ok (.dup, 1) := by decide +kernel
theorem dX11_init_36 : decode cX11_init 36 = .ok (.invokespecial 14, 3) := by decide +kernel
theorem dX11_init_39 : decode cX11_init 39 = .ok (.putfield 25, 3) := by decide +kernel
theorem dX11_init_42 : decode cX11_init 42 = .ok (.aload_n 0, 1) := by decide +kernel
theorem dX11_init_43 : decode cX11_init 43 = .ok (.new 28, 3) := by decide +kernel
theorem dX11_init_46 : decode cX11_init 46 = .ok (.dup, 1) := by decide +kernel
theorem dX11_init_47 : decode cX11_init 47 = .ok (.invokespecial 30, 3) := by decide +kernel
theorem dX11_init_50 : decode cX11_init 50 = .ok (.putfield 31, 3) := by decide +kernel
theorem dX11_init_53 : decode cX11_init 53 = .ok (.aload_n 0, 1) := by decide +kernel
theorem dX11_init_54 : decode cX11_init 54 = .ok (.new 35, 3) := by decide +kernel
theorem dX11_init_57 : decode cX11_init 57 = .ok (.dup, 1) := by decide +kernel
theorem dX11_init_58 : decode cX11_init 58 = .ok (.invokespecial 37, 3) := by decide +kernel
theorem dX11_init_61 : decode cX11_init 61 = .ok (.putfield 38, 3) := by decide +kernel
theorem dX11_init_64 : decode cX11_init 64 = .ok (.aload_n 0, 1) := by decide +kernel
theorem dX11_init_65 : decode cX11_init 65 = .ok (.new 42, 3) := by decide +kernel
theorem dX11_init_68 : decode cX11_init 68 = .ok (.dup, 1) := by decide +kernel
theorem dX11_init_69 : decode cX11_init 69 = .ok (.aload_n 1, 1) := by decide +kernel
theorem dX11_init_70 : decode cX11_init 70 = .ok (.invokespecial 44, 3) := by decide +kernel
theorem dX11_init_73 : decode cX11_init 73 = .ok (.putfield 47, 3) := by decide +kernel
theorem dX11_init_76 : decode cX11_init 76 = .ok (.aload_n 0, 1) := by decide +kernel
theorem dX11_init_77 : decode cX11_init 77 = .ok (.new 51, 3) := by decide +kernel
theorem dX11_init_80 : decode cX11_init 80 = .ok (.dup, 1) := by decide +kernel
theorem dX11_init_81 : decode cX11_init 81 = .ok (.aload_n 0, 1) := by decide +kernel
theorem dX11_init_82 : decode cX11_init 82 = .ok (.getfield 15, 3) := by decide +kernel
theorem dX11_init_85 : decode cX11_init 85 = .ok (.aload_n 0, 1) := by decide +kernel
theorem dX11_init_86 : decode cX11_init 86 = .ok (.getfield 47, 3) := by decide +kernel
theorem dX11_init_89 : decode cX11_init 89 = .ok (.invokespecial 53, 3) := by decide +kernel
theorem dX11_init_92 : decode cX11_init 92 = .ok (.putfield 56, 3) := by decide +kernel
theorem dX11_init_95 : decode cX11_init 95 = .ok (.aload_n 0, 1) := by decide +kernel
theorem dX11_init_96 : decode cX11_init 96 = .ok (.new 60, 3) := by decide +kernel
theorem dX11_init_99 : decode cX11_init 99 = .ok (.dup, 1) := by decide +kernel
theorem dX11_init_100 : decode cX11_init 100 = .ok (.aload_n 0, 1) := by decide +kernel
theorem dX11_init_101 : decode cX11_init 101 = .ok (.getfield 56, 3) := by decide +kernel
theorem dX11_init_104 : decode cX11_init 104 = .ok (.aload_n 1, 1) := by decide +kernel
theorem dX11_init_105 : decode cX11_init 105 = .ok (.invokespecial 62, 3) := by decide +kernel
theorem dX11_init_108 : decode cX11_init 108 = .ok (.putfield 65, 3) := by decide +kernel
theorem dX11_init_111 : decode cX11_init 111 = .ok (.aload_n 0, 1) := by decide +kernel
theorem dX11_init_112 : decode cX11_init 112 = .ok (.new 69, 3) := by decide +kernel
theorem dX11_init_115 : decode cX11_init 115 = .ok (.dup, 1) := by decide +kernel
theorem dX11_init_116 : decode cX11_init 116 = .ok (.aload_n 0, 1) := by decide +kernel
theorem dX11_init_117 : decode cX11_init 117 = .ok (.getfield 47, 3) := by decide +kernel
theorem dX11_init_120 : decode cX11_init 120 = .ok (.invokespecial 71, 3) := by decide +kernel
theorem dX11_init_123 : decode cX11_init 123 = .ok (.putfield 74, 3) := by decide +kernel
theorem dX11_init_126 : decode cX11_init 126 = .ok (.aload_n 0, 1) := by decide +kernel
theorem dX11_init_127 : decode cX11_init 127 = .ok (.new 78, 3) := by decide +kernel
theorem dX11_init_130 : decode cX11_init 130 = .ok (.dup, 1) := by decide +kernel
theorem dX11_init_131 : decode cX11_init 131 = .ok (.aload_n 0, 1) := by decide +kernel
theorem dX11_init_132 : decode cX11_init 132 = .ok (.getfield 47, 3) := by decide +kernel
theorem dX11_init_135 : decode cX11_init 135 = .ok (.invokespecial 80, 3) := by decide +kernel
theorem dX11_init_138 : decode cX11_init 138 = .ok (.putfield 81, 3) := by decide +kernel
theorem dX11_init_141 : decode cX11_init 141 = .ok (.aload_n 0, 1) := by decide +kernel
theorem dX11_init_142 : decode cX11_init 142 = .ok (.bipush 7, 2) := by decide +kernel
theorem dX11_init_144 : decode cX11_init 144 = .ok (.newarray .int, 2) := by decide +kernel
theorem dX11_init_146 : decode cX11_init 146 = .ok (.putfield 85, 3) := by decide +kernel
theorem dX11_init_149 : decode cX11_init 149 = .ok (.aload_n 0, 1) := by decide +kernel
theorem dX11_init_150 : decode cX11_init 150 = .ok (.iconst 0, 1) := by decide +kernel
theorem dX11_init_151 : decode cX11_init 151 = .ok (.putfield 89, 3) := by decide +kernel
theorem dX11_init_154 : decode cX11_init 154 = .ok (.aload_n 0, 1) := by decide +kernel
theorem dX11_init_155 : decode cX11_init 155 = .ok (.iconst (-1), 1) := by decide +kernel
theorem dX11_init_156 : decode cX11_init 156 = .ok (.putfield 93, 3) := by decide +kernel
theorem dX11_init_159 : decode cX11_init 159 = .ok (.aload_n 0, 1) := by decide +kernel
theorem dX11_init_160 : decode cX11_init 160 = .ok (.iconst (-1), 1) := by decide +kernel
theorem dX11_init_161 : decode cX11_init 161 = .ok (.putfield 96, 3) := by decide +kernel
theorem dX11_init_164 : decode cX11_init 164 = .ok (.aload_n 0, 1) := by decide +kernel
theorem dX11_init_165 : decode cX11_init 165 = .ok (.iconst 0, 1) := by decide +kernel
theorem dX11_init_166 : decode cX11_init 166 = .ok (.putfield 99, 3) := by decide +kernel
theorem dX11_init_169 : decode cX11_init 169 = .ok (.return_, 1) := by decide +kernel
theorem dX11_cat_0 : decode cX11_cat 0 = .ok (.iload_n 1, 1) := by decide +kernel
theorem dX11_cat_1 : decode cX11_cat 1 = .ok (.invokestatic 102, 3) := by decide +kernel
theorem dX11_cat_4 : decode cX11_cat 4 = .ok (.ifCond .ne 9, 3) := by decide +kernel
theorem dX11_cat_7 : decode cX11_cat 7 = .ok (.aload_n 0, 1) := by decide +kernel
theorem dX11_cat_8 : decode cX11_cat 8 = .ok (.iconst (-1), 1) := by decide +kernel
theorem dX11_cat_9 : decode cX11_cat 9 = .ok (.invokevirtual 106, 3) := by decide +kernel
theorem dX11_cat_12 : decode cX11_cat 12 = .ok (.ireturn, 1) := by decide +kernel
theorem dX11_cat_13 : decode cX11_cat 13 = .ok (.aload_n 0, 1) := by decide +kernel
theorem dX11_cat_14 : decode cX11_cat 14 = .ok (.getfield 15, 3) := by decide +kernel
theorem dX11_cat_17 : decode cX11_cat 17 = .ok (.getfield 110, 3) := by decide +kernel
theorem dX11_cat_20 : decode cX11_cat 20 = .ok (.bipush 6, 2) := by decide +kernel
theorem dX11_cat_22 : decode cX11_cat 22 = .ok (.if_icmp .lt 10, 3) := by decide +kernel
theorem dX11_cat_25 : decode cX11_cat 25 = .ok (.aload_n 0, 1) := by decide +kernel
theorem dX11_cat_26 : decode cX11_cat 26 = .ok (.bipush (-5), 2) := by decide +kernel
theorem dX11_cat_28 : decode cX11_cat 28 = .ok (.invokevirtual 106, 3) := by decide +kernel
theorem dX11_cat_31 : decode cX11_cat 31 = .ok (.ireturn, 1) := by decide +kernel
theorem dX11_cat_32 : decode cX11_cat 32 = .ok (.aload_n 0, 1) := by decide +kernel
theorem dX11_cat_33 : decode cX11_cat 33 = .ok (.getfield 56, 3) := by decide +kernel
theorem dX11_cat_36 : decode cX11_cat 36 = .ok (.invokevirtual 113, 3) := by decide +kernel
theorem dX11_cat_39 : decode cX11_cat 39 = .ok (.aload_n 0, 1) := by decide +kernel
theorem dX11_cat_40 : decode cX11_cat 40 = .ok (.aload_n 0, 1) := by decide +kernel
theorem dX11_cat_41 : decode cX11_cat 41 = .ok (.getfield 15, 3) := by decide +kernel
theorem dX11_cat_44 : decode cX11_cat 44 = .ok (.iload_n 1, 1) := by decide +kernel
theorem dX11_cat_45 : decode cX11_cat 45 = .ok (.sipush 511, 3) := by decide +kernel
theorem dX11_cat_48 : decode cX11_cat 48 = .ok (.iconst 1, 1) := by decide +kernel
theorem dX11_cat_49 : decode cX11_cat 49 = .ok (.iload_n 1, 1) := by decide +kernel
theorem dX11_cat_50 : decode cX11_cat 50 = .ok (.ishl, 1) := by decide +kernel
theorem dX11_cat_51 : decode cX11_cat 51 = .ok (.iconst (-1), 1) := by decide +kernel
theorem dX11_cat_52 : decode cX11_cat 52 = .ok (.ixor, 1) := by decide +kernel
theorem dX11_cat_53 : decode cX11_cat 53 = .ok (.iand, 1) := by decide +kernel
theorem dX11_cat_54 : decode cX11_cat 54 = .ok (.bipush 9, 2) := by decide +kernel
theorem dX11_cat_56 : decode cX11_cat 56 = .ok (.invokevirtual 116, 3) := by decide +kernel
theorem dX11_cat_59 : decode cX11_cat 59 = .ok (.invokevirtual 120, 3) := by decide +kernel
theorem dX11_cat_62 : decode cX11_cat 62 = .ok (.ireturn, 1) := by decide +kernel
theorem dX11_of_0 : decode cX11_of 0 = .ok (.aload_n 0, 1) := by decide +kernel
theorem dX11_of_1 : decode cX11_of 1 = .ok (.getfield 15, 3) := by decide +kernel
theorem dX11_of_4 : decode cX11_of 4 = .ok (.iload_n 1, 1) := by decide +kernel
theorem dX11_of_5 : decode cX11_of 5 = .ok (.invokevirtual 123, 3) := by decide +kernel
theorem dX11_of_8 : decode cX11_of 8 = .ok (.ifCond .ne 5, 3) := by decide +kernel
theorem dX11_of_11 : decode cX11_of 11 = .ok (.iconst (-1), 1) := by decide +kernel
theorem dX11_of_12 : decode cX11_of 12 = .ok (.ireturn, 1) := by decide +kernel
theorem dX11_of_13 : decode cX11_of 13 = .ok (.iload_n 2, 1) := by decide +kernel
theorem dX11_of_14 : decode cX11_of 14 = .ok (.tableswitch 136 0 8 #[50, 60, 70, 80, 90, 100, 109, 118, 127], 50) := by decide +kernel
theorem dX11_of_64 : decode cX11_of 64 = .ok (.aload_n 0, 1) := by decide +kernel
theorem dX11_of_65 : decode cX11_of 65 = .ok (.getfield 15, 3) := by decide +kernel
theorem dX11_of_68 : decode cX11_of 68 = .ok (.getfield 126, 3) := by decide +kernel
theorem dX11_of_71 : decode cX11_of 71 = .ok (.iload_n 1, 1) := by decide +kernel
theorem dX11_of_72 : decode cX11_of 72 = .ok (.iaload, 1) := by decide +kernel
theorem dX11_of_73 : decode cX11_of 73 = .ok (.ireturn, 1) := by decide +kernel
theorem dX11_of_74 : decode cX11_of 74 = .ok (.aload_n 0, 1) := by decide +kernel
theorem dX11_of_75 : decode cX11_of 75 = .ok (.getfield 15, 3) := by decide +kernel
theorem dX11_of_78 : decode cX11_of 78 = .ok (.getfield 129, 3) := by decide +kernel
theorem dX11_of_81 : decode cX11_of 81 = .ok (.iload_n 1, 1) := by decide +kernel
theorem dX11_of_82 : decode cX11_of 82 = .ok (.iaload, 1) := by decide +kernel
theorem dX11_of_83 : decode cX11_of 83 = .ok (.ireturn, 1) := by decide +kernel
theorem dX11_of_84 : decode cX11_of 84 = .ok (.aload_n 0, 1) := by decide +kernel
theorem dX11_of_85 : decode cX11_of 85 = .ok (.getfield 15, 3) := by decide +kernel
theorem dX11_of_88 : decode cX11_of 88 = .ok (.getfield 132, 3) := by decide +kernel
theorem dX11_of_91 : decode cX11_of 91 = .ok (.iload_n 1, 1) := by decide +kernel
theorem dX11_of_92 : decode cX11_of 92 = .ok (.iaload, 1) := by decide +kernel
theorem dX11_of_93 : decode cX11_of 93 = .ok (.ireturn, 1) := by decide +kernel
theorem dX11_of_94 : decode cX11_of 94 = .ok (.aload_n 0, 1) := by decide +kernel
theorem dX11_of_95 : decode cX11_of 95 = .ok (.getfield 15, 3) := by decide +kernel
theorem dX11_of_98 : decode cX11_of 98 = .ok (.getfield 135, 3) := by decide +kernel
theorem dX11_of_101 : decode cX11_of 101 = .ok (.iload_n 1, 1) := by decide +kernel
theorem dX11_of_102 : decode cX11_of 102 = .ok (.iaload, 1) := by decide +kernel
theorem dX11_of_103 : decode cX11_of 103 = .ok (.ireturn, 1) := by decide +kernel
theorem dX11_of_104 : decode cX11_of 104 = .ok (.aload_n 0, 1) := by decide +kernel
theorem dX11_of_105 : decode cX11_of 105 = .ok (.getfield 15, 3) := by decide +kernel
theorem dX11_of_108 : decode cX11_of 108 = .ok (.getfield 138, 3) := by decide +kernel
theorem dX11_of_111 : decode cX11_of 111 = .ok (.iload_n 1, 1) := by decide +kernel
theorem dX11_of_112 : decode cX11_of 112 = .ok (.iaload, 1) := by decide +kernel
theorem dX11_of_113 : decode cX11_of 113 = .ok (.ireturn, 1) := by decide +kernel
theorem dX11_of_114 : decode cX11_of 114 = .ok (.aload_n 0, 1) := by decide +kernel
theorem dX11_of_115 : decode cX11_of 115 = .ok (.getfield 15, 3) := by decide +kernel
theorem dX11_of_118 : decode cX11_of 118 = .ok (.iload_n 1, 1) := by decide +kernel
theorem dX11_of_119 : decode cX11_of 119 = .ok (.invokevirtual 141, 3) := by decide +kernel
theorem dX11_of_122 : decode cX11_of 122 = .ok (.ireturn, 1) := by decide +kernel
theorem dX11_of_123 : decode cX11_of 123 = .ok (.aload_n 0, 1) := by decide +kernel
theorem dX11_of_124 : decode cX11_of 124 = .ok (.iload_n 1, 1) := by decide +kernel
theorem dX11_of_125 : decode cX11_of 125 = .ok (.sipush 263, 3) := by decide +kernel
theorem dX11_of_128 : decode cX11_of 128 = .ok (.invokevirtual 144, 3) := by decide +kernel
theorem dX11_of_131 : decode cX11_of 131 = .ok (.ireturn, 1) := by decide +kernel
theorem dX11_of_132 : decode cX11_of 132 = .ok (.aload_n 0, 1) := by decide +kernel
theorem dX11_of_133 : decode cX11_of 133 = .ok (.iload_n 1, 1) := by decide +kernel
theorem dX11_of_134 : decode cX11_of 134 = .ok (.sipush 264, 3) := by decide +kernel
theorem dX11_of_137 : decode cX11_of 137 = .ok (.invokevirtual 144, 3) := by decide +kernel
theorem dX11_of_140 : decode cX11_of 140 = .ok (.ireturn, 1) := by decide +kernel
theorem dX11_of_141 : decode cX11_of 141 = .ok (.aload_n 0, 1) := by decide +kernel
theorem dX11_of_142 : decode cX11_of 142 = .ok (.iload_n 1, 1) := by decide +kernel
theorem dX11_of_143 : decode cX11_of 143 = .ok (.sipush 265, 3) := by decide +kernel
theorem dX11_of_146 : decode cX11_of 146 = .ok (.invokevirtual 144, 3) := by decide +kernel
theorem dX11_of_149 : decode cX11_of 149 = .ok (.ireturn, 1) := by decide +kernel
theorem dX11_of_150 : decode cX11_of 150 = .ok (.iconst (-1), 1) := by decide +kernel
theorem dX11_of_151 : decode cX11_of 151 = .ok (.ireturn, 1) := by decide +kernel
theorem dX11_askedNow_0 : decode cX11_askedNow 0 = .ok (.aload_n 0, 1) := by decide +kernel
theorem dX11_askedNow_1 : decode cX11_askedNow 1 = .ok (.getfield 15, 3) := by decide +kernel
theorem dX11_askedNow_4 : decode cX11_askedNow 4 = .ok (.iload_n 1, 1) := by decide +kernel
theorem dX11_askedNow_5 : decode cX11_askedNow 5 = .ok (.invokevirtual 148, 3) := by decide +kernel
theorem dX11_askedNow_8 : decode cX11_askedNow 8 = .ok (.ifCond .ne 5, 3) := by decide +kernel
theorem dX11_askedNow_11 : decode cX11_askedNow 11 = .ok (.iconst (-1), 1) := by decide +kernel
theorem dX11_askedNow_12 : decode cX11_askedNow 12 = .ok (.ireturn, 1) := by decide +kernel
theorem dX11_askedNow_13 : decode cX11_askedNow 13 = .ok (.aload_n 0, 1) := by decide +kernel
theorem dX11_askedNow_14 : decode cX11_askedNow 14 = .ok (.getfield 47, 3) := by decide +kernel
theorem dX11_askedNow_17 : decode cX11_askedNow 17 = .ok (.aload_n 0, 1) := by decide +kernel
theorem dX11_askedNow_18 : decode cX11_askedNow 18 = .ok (.getfield 15, 3) := by decide +kernel
theorem dX11_askedNow_21 : decode cX11_askedNow 21 = .ok (.iload_n 1, 1) := by decide +kernel
theorem dX11_askedNow_22 : decode cX11_askedNow 22 = .ok (.invokevirtual 151, 3) := by decide +kernel
theorem dX11_askedNow_25 : decode cX11_askedNow 25 = .ok (.aload_n 0, 1) := by decide +kernel
theorem dX11_askedNow_26 : decode cX11_askedNow 26 = .ok (.getfield 47, 3) := by decide +kernel
theorem dX11_askedNow_29 : decode cX11_askedNow 29 = .ok (.iload_n 2, 1) := by decide +kernel
theorem dX11_askedNow_30 : decode cX11_askedNow 30 = .ok (.invokevirtual 155, 3) := by decide +kernel
theorem dX11_askedNow_33 : decode cX11_askedNow 33 = .ok (.ireturn, 1) := by decide +kernel
theorem dX11_ship_0 : decode cX11_ship 0 = .ok (.iload_n 1, 1) := by decide +kernel
theorem dX11_ship_1 : decode cX11_ship 1 = .ok (.ifCond .lt 10, 3) := by decide +kernel
theorem dX11_ship_4 : decode cX11_ship 4 = .ok (.iload_n 1, 1) := by decide +kernel
theorem dX11_ship_5 : decode cX11_ship 5 = .ok (.sipush 511, 3) := by decide +kernel
theorem dX11_ship_8 : decode cX11_ship 8 = .ok (.if_icmp .le 9, 3) := by decide +kernel
theorem dX11_ship_11 : decode cX11_ship 11 = .ok (.aload_n 0, 1) := by decide +kernel
theorem dX11_ship_12 : decode cX11_ship 12 = .ok (.iconst (-1), 1) := by decide +kernel
theorem dX11_ship_13 : decode cX11_ship 13 = .ok (.invokevirtual 106, 3) := by decide +kernel
theorem dX11_ship_16 : decode cX11_ship 16 = .ok (.ireturn, 1) := by decide +kernel
theorem dX11_ship_17 : decode cX11_ship 17 = .ok (.aload_n 0, 1) := by decide +kernel
theorem dX11_ship_18 : decode cX11_ship 18 = .ok (.getfield 15, 3) := by decide +kernel
theorem dX11_ship_21 : decode cX11_ship 21 = .ok (.getfield 158, 3) := by decide +kernel
theorem dX11_ship_24 : decode cX11_ship 24 = .ok (.iconst 3, 1) := by decide +kernel
theorem dX11_ship_25 : decode cX11_ship 25 = .ok (.if_icmp .lt 10, 3) := by decide +kernel
theorem dX11_ship_28 : decode cX11_ship 28 = .ok (.aload_n 0, 1) := by decide +kernel
theorem dX11_ship_29 : decode cX11_ship 29 = .ok (.bipush (-5), 2) := by decide +kernel
theorem dX11_ship_31 : decode cX11_ship 31 = .ok (.invokevirtual 106, 3) := by decide +kernel
theorem dX11_ship_34 : decode cX11_ship 34 = .ok (.ireturn, 1) := by decide +kernel
theorem dX11_ship_35 : decode cX11_ship 35 = .ok (.aload_n 0, 1) := by decide +kernel
theorem dX11_ship_36 : decode cX11_ship 36 = .ok (.aload_n 0, 1) := by decide +kernel
theorem dX11_ship_37 : decode cX11_ship 37 = .ok (.getfield 15, 3) := by decide +kernel
theorem dX11_ship_40 : decode cX11_ship 40 = .ok (.iload_n 1, 1) := by decide +kernel
theorem dX11_ship_41 : decode cX11_ship 41 = .ok (.invokevirtual 161, 3) := by decide +kernel
theorem dX11_ship_44 : decode cX11_ship 44 = .ok (.invokevirtual 120, 3) := by decide +kernel
theorem dX11_ship_47 : decode cX11_ship 47 = .ok (.ireturn, 1) := by decide +kernel
theorem dX11_at_0 : decode cX11_at 0 = .ok (.aload_n 0, 1) := by decide +kernel
theorem dX11_at_1 : decode cX11_at 1 = .ok (.getfield 15, 3) := by decide +kernel
theorem dX11_at_4 : decode cX11_at 4 = .ok (.iload_n 1, 1) := by decide +kernel
theorem dX11_at_5 : decode cX11_at 5 = .ok (.invokevirtual 164, 3) := by decide +kernel
theorem dX11_at_8 : decode cX11_at 8 = .ok (.ifCond .ne 5, 3) := by decide +kernel
theorem dX11_at_11 : decode cX11_at 11 = .ok (.iconst (-1), 1) := by decide +kernel
theorem dX11_at_12 : decode cX11_at 12 = .ok (.ireturn, 1) := by decide +kernel
theorem dX11_at_13 : decode cX11_at 13 = .ok (.iload_n 2, 1) := by decide +kernel
theorem dX11_at_14 : decode cX11_at 14 = .ok (.tableswitch 71 0 3 #[30, 40, 49, 58], 30) := by decide +kernel
theorem dX11_at_44 : decode cX11_at 44 = .ok (.aload_n 0, 1) := by decide +kernel
theorem dX11_at_45 : decode cX11_at 45 = .ok (.getfield 15, 3) := by decide +kernel
theorem dX11_at_48 : decode cX11_at 48 = .ok (.getfield 167, 3) := by decide +kernel
theorem dX11_at_51 : decode cX11_at 51 = .ok (.iload_n 1, 1) := by decide +kernel
theorem dX11_at_52 : decode cX11_at 52 = .ok (.iaload, 1) := by decide +kernel
theorem dX11_at_53 : decode cX11_at 53 = .ok (.ireturn, 1) := by decide +kernel
theorem dX11_at_54 : decode cX11_at 54 = .ok (.aload_n 0, 1) := by decide +kernel
theorem dX11_at_55 : decode cX11_at 55 = .ok (.getfield 15, 3) := by decide +kernel
theorem dX11_at_58 : decode cX11_at 58 = .ok (.iload_n 1, 1) := by decide +kernel
theorem dX11_at_59 : decode cX11_at 59 = .ok (.invokevirtual 170, 3) := by decide +kernel
theorem dX11_at_62 : decode cX11_at 62 = .ok (.ireturn, 1) := by decide +kernel
theorem dX11_at_63 : decode cX11_at 63 = .ok (.aload_n 0, 1) := by decide +kernel
theorem dX11_at_64 : decode cX11_at 64 = .ok (.getfield 15, 3) := by decide +kernel
theorem dX11_at_67 : decode cX11_at 67 = .ok (.iload_n 1, 1) := by decide +kernel
theorem dX11_at_68 : decode cX11_at 68 = .ok (.invokevirtual 173, 3) := by decide +kernel
theorem dX11_at_71 : decode cX11_at 71 = .ok (.ireturn, 1) := by decide +kernel
theorem dX11_at_72 : decode cX11_at 72 = .ok (.aload_n 0, 1) := by decide +kernel
theorem dX11_at_73 : decode cX11_at 73 = .ok (.getfield 47, 3) := by decide +kernel
theorem dX11_at_76 : decode cX11_at 76 = .ok (.aload_n 0, 1) := by decide +kernel
theorem dX11_at_77 : decode cX11_at 77 = .ok (.getfield 15, 3) := by decide +kernel
theorem dX11_at_80 : decode cX11_at 80 = .ok (.iload_n 1, 1) := by decide +kernel
theorem dX11_at_81 : decode cX11_at 81 = .ok (.invokevirtual 176, 3) := by decide +kernel
theorem dX11_at_84 : decode cX11_at 84 = .ok (.ireturn, 1) := by decide +kernel
theorem dX11_at_85 : decode cX11_at 85 = .ok (.iconst (-1), 1) := by decide +kernel
theorem dX11_at_86 : decode cX11_at 86 = .ok (.ireturn, 1) := by decide +kernel
theorem dX11_terms_0 : decode cX11_terms 0 = .ok (.iload_n 1, 1) := by decide +kernel
theorem dX11_terms_1 : decode cX11_terms 1 = .ok (.ifCond .lt 21, 3) := by decide +kernel
theorem dX11_terms_4 : decode cX11_terms 4 = .ok (.iload_n 1, 1) := by decide +kernel
theorem dX11_terms_5 : decode cX11_terms 5 = .ok (.iconst 3, 1) := by decide +kernel
theorem dX11_terms_6 : decode cX11_terms 6 = .ok (.if_icmp .ge 16, 3) := by decide +kernel
theorem dX11_terms_9 : decode cX11_terms 9 = .ok (.iload_n 2, 1) := by decide +kernel
theorem dX11_terms_10 : decode cX11_terms 10 = .ok (.ifCond .lt 12, 3) := by decide +kernel
theorem dX11_terms_13 : decode cX11_terms 13 = .ok (.iload_n 2, 1) := by decide +kernel
theorem dX11_terms_14 : decode cX11_terms 14 = .ok (.getstatic 180, 3) := by decide +kernel
theorem dX11_terms_17 : decode cX11_terms 17 = .ok (.iload_n 1, 1) := by decide +kernel
theorem dX11_terms_18 : decode cX11_terms 18 = .ok (.iaload, 1) := by decide +kernel
theorem dX11_terms_19 : decode cX11_terms 19 = .ok (.if_icmp .le 9, 3) := by decide +kernel
theorem dX11_terms_22 : decode cX11_terms 22 = .ok (.aload_n 0, 1) := by decide +kernel
theorem dX11_terms_23 : decode cX11_terms 23 = .ok (.iconst (-1), 1) := by decide +kernel
theorem dX11_terms_24 : decode cX11_terms 24 = .ok (.invokevirtual 106, 3) := by decide +kernel
theorem dX11_terms_27 : decode cX11_terms 27 = .ok (.ireturn, 1) := by decide +kernel
theorem dX11_terms_28 : decode cX11_terms 28 = .ok (.aload_n 0, 1) := by decide +kernel
theorem dX11_terms_29 : decode cX11_terms 29 = .ok (.getfield 15, 3) := by decide +kernel
theorem dX11_terms_32 : decode cX11_terms 32 = .ok (.getfield 183, 3) := by decide +kernel
theorem dX11_terms_35 : decode cX11_terms 35 = .ok (.iload_n 1, 1) := by decide +kernel
theorem dX11_terms_36 : decode cX11_terms 36 = .ok (.iaload, 1) := by decide +kernel
theorem dX11_terms_37 : decode cX11_terms 37 = .ok (.istore_n 3, 1) := by decide +kernel
theorem dX11_terms_38 : decode cX11_terms 38 = .ok (.aload_n 0, 1) := by decide +kernel
theorem dX11_terms_39 : decode cX11_terms 39 = .ok (.getfield 15, 3) := by decide +kernel
theorem dX11_terms_42 : decode cX11_terms 42 = .ok (.getfield 183, 3) := by decide +kernel
theorem dX11_terms_45 : decode cX11_terms 45 = .ok (.iload_n 1, 1) := by decide +kernel
theorem dX11_terms_46 : decode cX11_terms 46 = .ok (.iload_n 2, 1) := by decide +kernel
theorem dX11_terms_47 : decode cX11_terms 47 = .ok (.iastore, 1) := by decide +kernel
theorem dX11_terms_48 : decode cX11_terms 48 = .ok (.aload_n 0, 1) := by decide +kernel
theorem dX11_terms_49 : decode cX11_terms 49 = .ok (.getfield 56, 3) := by decide +kernel
theorem dX11_terms_52 : decode cX11_terms 52 = .ok (.invokevirtual 113, 3) := by decide +kernel
theorem dX11_terms_55 : decode cX11_terms 55 = .ok (.aload_n 0, 1) := by decide +kernel
theorem dX11_terms_56 : decode cX11_terms 56 = .ok (.iload_n 3, 1) := by decide +kernel
theorem dX11_terms_57 : decode cX11_terms 57 = .ok (.invokevirtual 120, 3) := by decide +kernel
theorem dX11_terms_60 : decode cX11_terms 60 = .ok (.ireturn, 1) := by decide +kernel
theorem dX11_feed_0 : decode cX11_feed 0 = .ok (.aload_n 0, 1) := by decide +kernel
theorem dX11_feed_1 : decode cX11_feed 1 = .ok (.getfield 31, 3) := by decide +kernel
theorem dX11_feed_4 : decode cX11_feed 4 = .ok (.invokevirtual 186, 3) := by decide +kernel
theorem dX11_feed_7 : decode cX11_feed 7 = .ok (.ifCond .ne 5, 3) := by decide +kernel
theorem dX11_feed_10 : decode cX11_feed 10 = .ok (.iconst (-1), 1) := by decide +kernel
theorem dX11_feed_11 : decode cX11_feed 11 = .ok (.ireturn, 1) := by decide +kernel
theorem dX11_feed_12 : decode cX11_feed 12 = .ok (.aload_n 0, 1) := by decide +kernel
theorem dX11_feed_13 : decode cX11_feed 13 = .ok (.getfield 31, 3) := by decide +kernel
theorem dX11_feed_16 : decode cX11_feed 16 = .ok (.iload_n 1, 1) := by decide +kernel
theorem dX11_feed_17 : decode cX11_feed 17 = .ok (.invokevirtual 190, 3) := by decide +kernel
theorem dX11_feed_20 : decode cX11_feed 20 = .ok (.aload_n 0, 1) := by decide +kernel
theorem dX11_feed_21 : decode cX11_feed 21 = .ok (.getfield 31, 3) := by decide +kernel
theorem dX11_feed_24 : decode cX11_feed 24 = .ok (.iload_n 2, 1) := by decide +kernel
theorem dX11_feed_25 : decode cX11_feed 25 = .ok (.invokevirtual 190, 3) := by decide +kernel
theorem dX11_feed_28 : decode cX11_feed 28 = .ok (.aload_n 0, 1) := by decide +kernel
theorem dX11_feed_29 : decode cX11_feed 29 = .ok (.getfield 31, 3) := by decide +kernel
theorem dX11_feed_32 : decode cX11_feed 32 = .ok (.iload_n 3, 1) := by decide +kernel
theorem dX11_feed_33 : decode cX11_feed 33 = .ok (.invokevirtual 190, 3) := by decide +kernel
theorem dX11_feed_36 : decode cX11_feed 36 = .ok (.aload_n 0, 1) := by decide +kernel
theorem dX11_feed_37 : decode cX11_feed 37 = .ok (.getfield 31, 3) := by decide +kernel
theorem dX11_feed_40 : decode cX11_feed 40 = .ok (.iload 4, 2) := by decide +kernel
theorem dX11_feed_42 : decode cX11_feed 42 = .ok (.invokevirtual 190, 3) := by decide +kernel
theorem dX11_feed_45 : decode cX11_feed 45 = .ok (.aload_n 0, 1) := by decide +kernel
theorem dX11_feed_46 : decode cX11_feed 46 = .ok (.getfield 31, 3) := by decide +kernel
theorem dX11_feed_49 : decode cX11_feed 49 = .ok (.iload 5, 2) := by decide +kernel
theorem dX11_feed_51 : decode cX11_feed 51 = .ok (.invokevirtual 190, 3) := by decide +kernel
theorem dX11_feed_54 : decode cX11_feed 54 = .ok (.aload_n 0, 1) := by decide +kernel
theorem dX11_feed_55 : decode cX11_feed 55 = .ok (.getfield 31, 3) := by decide +kernel
theorem dX11_feed_58 : decode cX11_feed 58 = .ok (.getfield 194, 3) := by decide +kernel
theorem dX11_feed_61 : decode cX11_feed 61 = .ok (.ireturn, 1) := by decide +kernel
theorem dX11_end_0 : decode cX11_end 0 = .ok (.iload_n 1, 1) := by decide +kernel
theorem dX11_end_1 : decode cX11_end 1 = .ok (.ifCond .lt 14, 3) := by decide +kernel
theorem dX11_end_4 : decode cX11_end 4 = .ok (.iload_n 1, 1) := by decide +kernel
theorem dX11_end_5 : decode cX11_end 5 = .ok (.aload_n 0, 1) := by decide +kernel
theorem dX11_end_6 : decode cX11_end 6 = .ok (.getfield 31, 3) := by decide +kernel
theorem dX11_end_9 : decode cX11_end 9 = .ok (.getfield 194, 3) := by decide +kernel
theorem dX11_end_12 : decode cX11_end 12 = .ok (.if_icmp .le 5, 3) := by decide +kernel
theorem dX11_end_15 : decode cX11_end 15 = .ok (.iconst (-1), 1) := by decide +kernel
theorem dX11_end_16 : decode cX11_end 16 = .ok (.ireturn, 1) := by decide +kernel
theorem dX11_end_17 : decode cX11_end 17 = .ok (.aload_n 0, 1) := by decide +kernel
theorem dX11_end_18 : decode cX11_end 18 = .ok (.getfield 31, 3) := by decide +kernel
theorem dX11_end_21 : decode cX11_end 21 = .ok (.iload_n 1, 1) := by decide +kernel
theorem dX11_end_22 : decode cX11_end 22 = .ok (.putfield 194, 3) := by decide +kernel
theorem dX11_end_25 : decode cX11_end 25 = .ok (.iload_n 1, 1) := by decide +kernel
theorem dX11_end_26 : decode cX11_end 26 = .ok (.ireturn, 1) := by decide +kernel
theorem dX11_row_0 : decode cX11_row 0 = .ok (.aload_n 0, 1) := by decide +kernel
theorem dX11_row_1 : decode cX11_row 1 = .ok (.getfield 31, 3) := by decide +kernel
theorem dX11_row_4 : decode cX11_row 4 = .ok (.getfield 194, 3) := by decide +kernel
theorem dX11_row_7 : decode cX11_row 7 = .ok (.ifCond .ne 10, 3) := by decide +kernel
theorem dX11_row_10 : decode cX11_row 10 = .ok (.aload_n 0, 1) := by decide +kernel
theorem dX11_row_11 : decode cX11_row 11 = .ok (.bipush (-6), 2) := by decide +kernel
theorem dX11_row_13 : decode cX11_row 13 = .ok (.invokevirtual 106, 3) := by decide +kernel
theorem dX11_row_16 : decode cX11_row 16 = .ok (.ireturn, 1) := by decide +kernel
theorem dX11_row_17 : decode cX11_row 17 = .ok (.aload_n 0, 1) := by decide +kernel
theorem dX11_row_18 : decode cX11_row 18 = .ok (.getfield 56, 3) := by decide +kernel
theorem dX11_row_21 : decode cX11_row 21 = .ok (.invokevirtual 113, 3) := by decide +kernel
theorem dX11_row_24 : decode cX11_row 24 = .ok (.iconst 0, 1) := by decide +kernel
theorem dX11_row_25 : decode cX11_row 25 = .ok (.istore_n 1, 1) := by decide +kernel
theorem dX11_row_26 : decode cX11_row 26 = .ok (.aload_n 0, 1) := by decide +kernel
theorem dX11_row_27 : decode cX11_row 27 = .ok (.iconst 0, 1) := by decide +kernel
theorem dX11_row_28 : decode cX11_row 28 = .ok (.putfield 89, 3) := by decide +kernel
theorem dX11_row_31 : decode cX11_row 31 = .ok (.iconst 0, 1) := by decide +kernel
theorem dX11_row_32 : decode cX11_row 32 = .ok (.istore_n 2, 1) := by decide +kernel
theorem dX11_row_33 : decode cX11_row 33 = .ok (.iload_n 2, 1) := by decide +kernel
theorem dX11_row_34 : decode cX11_row 34 = .ok (.aload_n 0, 1) := by decide +kernel
theorem dX11_row_35 : decode cX11_row 35 = .ok (.getfield 31, 3) := by decide +kernel
theorem dX11_row_38 : decode cX11_row 38 = .ok (.getfield 194, 3) := by decide +kernel
theorem dX11_row_41 : decode cX11_row 41 = .ok (.if_icmp .ge 33, 3) := by decide +kernel
theorem dX11_row_44 : decode cX11_row 44 = .ok (.aload_n 0, 1) := by decide +kernel
theorem dX11_row_45 : decode cX11_row 45 = .ok (.iload_n 2, 1) := by decide +kernel
theorem dX11_row_46 : decode cX11_row 46 = .ok (.invokevirtual 197, 3) := by decide +kernel
theorem dX11_row_49 : decode cX11_row 49 = .ok (.ifCond .eq 9, 3) := by decide +kernel
theorem dX11_row_52 : decode cX11_row 52 = .ok (.iinc 1 1, 3) := by decide +kernel
theorem dX11_row_55 : decode cX11_row 55 = .ok (.goto 13, 3) := by decide +kernel
theorem dX11_row_58 : decode cX11_row 58 = .ok (.aload_n 0, 1) := by decide +kernel
theorem dX11_row_59 : decode cX11_row 59 = .ok (.dup, 1) := by decide +kernel
theorem dX11_row_60 : decode cX11_row 60 = .ok (.getfield 89, 3) := by decide +kernel
theorem dX11_row_63 : decode cX11_row 63 = .ok (.iconst 1, 1) := by decide +kernel
theorem dX11_row_64 : decode cX11_row 64 = .ok (.iadd, 1) := by decide +kernel
theorem dX11_row_65 : decode cX11_row 65 = .ok (.putfield 89, 3) := by decide +kernel
theorem dX11_row_68 : decode cX11_row 68 = .ok (.iinc 2 3, 3) := by decide +kernel
theorem dX11_row_71 : decode cX11_row 71 = .ok (.goto (-38), 3) := by decide +kernel
theorem dX11_row_74 : decode cX11_row 74 = .ok (.aload_n 0, 1) := by decide +kernel
theorem dX11_row_75 : decode cX11_row 75 = .ok (.getfield 31, 3) := by decide +kernel
theorem dX11_row_78 : decode cX11_row 78 = .ok (.iconst 0, 1) := by decide +kernel
theorem dX11_row_79 : decode cX11_row 79 = .ok (.putfield 194, 3) := by decide +kernel
theorem dX11_row_82 : decode cX11_row 82 = .ok (.aload_n 0, 1) := by decide +kernel
theorem dX11_row_83 : decode cX11_row 83 = .ok (.iload_n 1, 1) := by decide +kernel
theorem dX11_row_84 : decode cX11_row 84 = .ok (.invokevirtual 120, 3) := by decide +kernel
theorem dX11_row_87 : decode cX11_row 87 = .ok (.ireturn, 1) := by decide +kernel
theorem dX11_cameFrom_0 : decode cX11_cameFrom 0 = .ok (.iload_n 1, 1) := by decide +kernel
theorem dX11_cameFrom_1 : decode cX11_cameFrom 1 = .ok (.iconst 2, 1) := by decide +kernel
theorem dX11_cameFrom_2 : decode cX11_cameFrom 2 = .ok (.iadd, 1) := by decide +kernel
theorem dX11_cameFrom_3 : decode cX11_cameFrom 3 = .ok (.aload_n 0, 1) := by decide +kernel
theorem dX11_cameFrom_4 : decode cX11_cameFrom 4 = .ok (.getfield 31, 3) := by decide +kernel
theorem dX11_cameFrom_7 : decode cX11_cameFrom 7 = .ok (.getfield 194, 3) := by decide +kernel
theorem dX11_cameFrom_10 : decode cX11_cameFrom 10 = .ok (.if_icmp .ge 15, 3) := by decide +kernel
theorem dX11_cameFrom_13 : decode cX11_cameFrom 13 = .ok (.aload_n 0, 1) := by decide +kernel
theorem dX11_cameFrom_14 : decode cX11_cameFrom 14 = .ok (.getfield 15, 3) := by decide +kernel
theorem dX11_cameFrom_17 : decode cX11_cameFrom 17 = .ok (.getfield 110, 3) := by decide +kernel
theorem dX11_cameFrom_20 : decode cX11_cameFrom 20 = .ok (.bipush 6, 2) := by decide +kernel
theorem dX11_cameFrom_22 : decode cX11_cameFrom 22 = .ok (.if_icmp .lt 5, 3) := by decide +kernel
theorem dX11_cameFrom_25 : decode cX11_cameFrom 25 = .ok (.iconst 0, 1) := by decide +kernel
theorem dX11_cameFrom_26 : decode cX11_cameFrom 26 = .ok (.ireturn, 1) := by decide +kernel
theorem dX11_cameFrom_27 : decode cX11_cameFrom 27 = .ok (.aload_n 0, 1) := by decide +kernel
theorem dX11_cameFrom_28 : decode cX11_cameFrom 28 = .ok (.getfield 31, 3) := by decide +kernel
theorem dX11_cameFrom_31 : decode cX11_cameFrom 31 = .ok (.iload_n 1, 1) := by decide +kernel
theorem dX11_cameFrom_32 : decode cX11_cameFrom 32 = .ok (.invokevirtual 200, 3) := by decide +kernel
theorem dX11_cameFrom_35 : decode cX11_cameFrom 35 = .ok (.istore_n 2, 1) := by decide +kernel
theorem dX11_cameFrom_36 : decode cX11_cameFrom 36 = .ok (.aload_n 0, 1) := by decide +kernel
theorem dX11_cameFrom_37 : decode cX11_cameFrom 37 = .ok (.getfield 31, 3) := by decide +kernel
theorem dX11_cameFrom_40 : decode cX11_cameFrom 40 = .ok (.iload_n 1, 1) := by decide +kernel
theorem dX11_cameFrom_41 : decode cX11_cameFrom 41 = .ok (.iconst 1, 1) := by decide +kernel
theorem dX11_cameFrom_42 : decode cX11_cameFrom 42 = .ok (.iadd, 1) := by decide +kernel
theorem dX11_cameFrom_43 : decode cX11_cameFrom 43 = .ok (.invokevirtual 200, 3) := by decide +kernel
theorem dX11_cameFrom_46 : decode cX11_cameFrom 46 = .ok (.istore_n 3, 1) := by decide +kernel
theorem dX11_cameFrom_47 : decode cX11_cameFrom 47 = .ok (.aload_n 0, 1) := by decide +kernel
theorem dX11_cameFrom_48 : decode cX11_cameFrom 48 = .ok (.getfield 31, 3) := by decide +kernel
theorem dX11_cameFrom_51 : decode cX11_cameFrom 51 = .ok (.iload_n 1, 1) := by decide +kernel
theorem dX11_cameFrom_52 : decode cX11_cameFrom 52 = .ok (.iconst 2, 1) := by decide +kernel
theorem dX11_cameFrom_53 : decode cX11_cameFrom 53 = .ok (.iadd, 1) := by decide +kernel
theorem dX11_cameFrom_54 : decode cX11_cameFrom 54 = .ok (.invokevirtual 200, 3) := by decide +kernel
theorem dX11_cameFrom_57 : decode cX11_cameFrom 57 = .ok (.istore 4, 2) := by decide +kernel
theorem dX11_cameFrom_59 : decode cX11_cameFrom 59 = .ok (.iload_n 2, 1) := by decide +kernel
theorem dX11_cameFrom_60 : decode cX11_cameFrom 60 = .ok (.invokestatic 102, 3) := by decide +kernel
theorem dX11_cameFrom_63 : decode cX11_cameFrom 63 = .ok (.ifCond .eq 16, 3) := by decide +kernel
theorem dX11_cameFrom_66 : decode cX11_cameFrom 66 = .ok (.iload_n 3, 1) := by decide +kernel
theorem dX11_cameFrom_67 : decode cX11_cameFrom 67 = .ok (.bipush 9, 2) := by decide +kernel
theorem dX11_cameFrom_69 : decode cX11_cameFrom 69 = .ok (.if_icmp .ge 10, 3) := by decide +kernel
theorem dX11_cameFrom_72 : decode cX11_cameFrom 72 = .ok (.iload 4, 2) := by decide +kernel
theorem dX11_cameFrom_74 : decode cX11_cameFrom 74 = .ok (.bipush 9, 2) := by decide +kernel
theorem dX11_cameFrom_76 : decode cX11_cameFrom 76 = .ok (.if_icmp .le 5, 3) := by decide +kernel
theorem dX11_cameFrom_79 : decode cX11_cameFrom 79 = .ok (.iconst 0, 1) := by decide +kernel
theorem dX11_cameFrom_80 : decode cX11_cameFrom 80 = .ok (.ireturn, 1) := by decide +kernel
theorem dX11_cameFrom_81 : decode cX11_cameFrom 81 = .ok (.aload_n 0, 1) := by decide +kernel
theorem dX11_cameFrom_82 : decode cX11_cameFrom 82 = .ok (.getfield 15, 3) := by decide +kernel
theorem dX11_cameFrom_85 : decode cX11_cameFrom 85 = .ok (.iload_n 2, 1) := by decide +kernel
theorem dX11_cameFrom_86 : decode cX11_cameFrom 86 = .ok (.iload_n 2, 1) := by decide +kernel
theorem dX11_cameFrom_87 : decode cX11_cameFrom 87 = .ok (.iload_n 3, 1) := by decide +kernel
theorem dX11_cameFrom_88 : decode cX11_cameFrom 88 = .ok (.invokestatic 203, 3) := by decide +kernel
theorem dX11_cameFrom_91 : decode cX11_cameFrom 91 = .ok (.iload 4, 2) := by decide +kernel
theorem dX11_cameFrom_93 : decode cX11_cameFrom 93 = .ok (.invokevirtual 116, 3) := by decide +kernel
theorem dX11_cameFrom_96 : decode cX11_cameFrom 96 = .ok (.pop, 1) := by decide +kernel
theorem dX11_cameFrom_97 : decode cX11_cameFrom 97 = .ok (.iconst 1, 1) := by decide +kernel
theorem dX11_cameFrom_98 : decode cX11_cameFrom 98 = .ok (.ireturn, 1) := by decide +kernel
theorem dX11_lowestBeside_0 : decode cX11_lowestBeside 0 = .ok (.iconst 0, 1) := by decide +kernel
theorem dX11_lowestBeside_1 : decode cX11_lowestBeside 1 = .ok (.istore_n 2, 1) := by decide +kernel
theorem dX11_lowestBeside_2 : decode cX11_lowestBeside 2 = .ok (.iload_n 1, 1) := by decide +kernel
theorem dX11_lowestBeside_3 : decode cX11_lowestBeside 3 = .ok (.istore_n 3, 1) := by decide +kernel
theorem dX11_lowestBeside_4 : decode cX11_lowestBeside 4 = .ok (.iconst 0, 1) := by decide +kernel
theorem dX11_lowestBeside_5 : decode cX11_lowestBeside 5 = .ok (.istore 4, 2) := by decide +kernel
theorem dX11_lowestBeside_7 : decode cX11_lowestBeside 7 = .ok (.iload 4, 2) := by decide +kernel
theorem dX11_lowestBeside_9 : decode cX11_lowestBeside 9 = .ok (.bipush 9, 2) := by decide +kernel
theorem dX11_lowestBeside_11 : decode cX11_lowestBeside 11 = .ok (.if_icmp .ge 29, 3) := by decide +kernel
theorem dX11_lowestBeside_14 : decode cX11_lowestBeside 14 = .ok (.iload_n 3, 1) := by decide +kernel
theorem dX11_lowestBeside_15 : decode cX11_lowestBeside 15 = .ok (.ifCond .le 25, 3) := by decide +kernel
theorem dX11_lowestBeside_18 : decode cX11_lowestBeside 18 = .ok (.iload 4, 2) := by decide +kernel
theorem dX11_lowestBeside_20 : decode cX11_lowestBeside 20 = .ok (.iload_n 0, 1) := by decide +kernel
theorem dX11_lowestBeside_21 : decode cX11_lowestBeside 21 = .ok (.if_icmp .eq 13, 3) := by decide +kernel
theorem dX11_lowestBeside_24 : decode cX11_lowestBeside 24 = .ok (.iload_n 2, 1) := by decide +kernel
theorem dX11_lowestBeside_25 : decode cX11_lowestBeside 25 = .ok (.iconst 1, 1) := by decide +kernel
theorem dX11_lowestBeside_26 : decode cX11_lowestBeside 26 = .ok (.iload 4, 2) := by decide +kernel
theorem dX11_lowestBeside_28 : decode cX11_lowestBeside 28 = .ok (.ishl, 1) := by decide +kernel
theorem dX11_lowestBeside_29 : decode cX11_lowestBeside 29 = .ok (.ior, 1) := by decide +kernel
theorem dX11_lowestBeside_30 : decode cX11_lowestBeside 30 = .ok (.istore_n 2, 1) := by decide +kernel
theorem dX11_lowestBeside_31 : decode cX11_lowestBeside 31 = .ok (.iinc 3 (-1), 3) := by decide +kernel
theorem dX11_lowestBeside_34 : decode cX11_lowestBeside 34 = .ok (.iinc 4 1, 3) := by decide +kernel
theorem dX11_lowestBeside_37 : decode cX11_lowestBeside 37 = .ok (.goto (-30), 3) := by decide +kernel
theorem dX11_lowestBeside_40 : decode cX11_lowestBeside 40 = .ok (.iload_n 2, 1) := by decide +kernel
theorem dX11_lowestBeside_41 : decode cX11_lowestBeside 41 = .ok (.ireturn, 1) := by decide +kernel
theorem dX11_mice_0 : decode cX11_mice 0 = .ok (.aload_n 0, 1) := by decide +kernel
theorem dX11_mice_1 : decode cX11_mice 1 = .ok (.getfield 89, 3) := by decide +kernel
theorem dX11_mice_4 : decode cX11_mice 4 = .ok (.ireturn, 1) := by decide +kernel
theorem dX11_law_0 : decode cX11_law 0 = .ok (.aload_n 0, 1) := by decide +kernel
theorem dX11_law_1 : decode cX11_law 1 = .ok (.getfield 15, 3) := by decide +kernel
theorem dX11_law_4 : decode cX11_law 4 = .ok (.getfield 206, 3) := by decide +kernel
theorem dX11_law_7 : decode cX11_law 7 = .ok (.bipush 6, 2) := by decide +kernel
theorem dX11_law_9 : decode cX11_law 9 = .ok (.if_icmp .lt 18, 3) := by decide +kernel
theorem dX11_law_12 : decode cX11_law 12 = .ok (.aload_n 0, 1) := by decide +kernel
theorem dX11_law_13 : decode cX11_law 13 = .ok (.getfield 31, 3) := by decide +kernel
theorem dX11_law_16 : decode cX11_law 16 = .ok (.iconst 0, 1) := by decide +kernel
theorem dX11_law_17 : decode cX11_law 17 = .ok (.putfield 194, 3) := by decide +kernel
theorem dX11_law_20 : decode cX11_law 20 = .ok (.aload_n 0, 1) := by decide +kernel
theorem dX11_law_21 : decode cX11_law 21 = .ok (.bipush (-5), 2) := by decide +kernel
theorem dX11_law_23 : decode cX11_law 23 = .ok (.invokevirtual 106, 3) := by decide +kernel
theorem dX11_law_26 : decode cX11_law 26 = .ok (.ireturn, 1) := by decide +kernel
theorem dX11_law_27 : decode cX11_law 27 = .ok (.aload_n 0, 1) := by decide +kernel
theorem dX11_law_28 : decode cX11_law 28 = .ok (.aload_n 0, 1) := by decide +kernel
theorem dX11_law_29 : decode cX11_law 29 = .ok (.getfield 38, 3) := by decide +kernel
theorem dX11_law_32 : decode cX11_law 32 = .ok (.aload_n 0, 1) := by decide +kernel
theorem dX11_law_33 : decode cX11_law 33 = .ok (.getfield 31, 3) := by decide +kernel
theorem dX11_law_36 : decode cX11_law 36 = .ok (.iconst 1, 1) := by decide +kernel
theorem dX11_law_37 : decode cX11_law 37 = .ok (.invokevirtual 209, 3) := by decide +kernel
theorem dX11_law_40 : decode cX11_law 40 = .ok (.putfield 93, 3) := by decide +kernel
theorem dX11_law_43 : decode cX11_law 43 = .ok (.aload_n 0, 1) := by decide +kernel
theorem dX11_law_44 : decode cX11_law 44 = .ok (.getfield 93, 3) := by decide +kernel
theorem dX11_law_47 : decode cX11_law 47 = .ok (.iconst (-1), 1) := by decide +kernel
theorem dX11_law_48 : decode cX11_law 48 = .ok (.if_icmp .eq 10, 3) := by decide +kernel
theorem dX11_law_51 : decode cX11_law 51 = .ok (.aload_n 0, 1) := by decide +kernel
theorem dX11_law_52 : decode cX11_law 52 = .ok (.bipush (-6), 2) := by decide +kernel
theorem dX11_law_54 : decode cX11_law 54 = .ok (.invokevirtual 106, 3) := by decide +kernel
theorem dX11_law_57 : decode cX11_law 57 = .ok (.ireturn, 1) := by decide +kernel
theorem dX11_law_58 : decode cX11_law 58 = .ok (.aload_n 0, 1) := by decide +kernel
theorem dX11_law_59 : decode cX11_law 59 = .ok (.aload_n 0, 1) := by decide +kernel
theorem dX11_law_60 : decode cX11_law 60 = .ok (.getfield 15, 3) := by decide +kernel
theorem dX11_law_63 : decode cX11_law 63 = .ok (.aload_n 0, 1) := by decide +kernel
theorem dX11_law_64 : decode cX11_law 64 = .ok (.getfield 38, 3) := by decide +kernel
theorem dX11_law_67 : decode cX11_law 67 = .ok (.getfield 213, 3) := by decide +kernel
theorem dX11_law_70 : decode cX11_law 70 = .ok (.invokevirtual 217, 3) := by decide +kernel
theorem dX11_law_73 : decode cX11_law 73 = .ok (.invokevirtual 223, 3) := by decide +kernel
theorem dX11_law_76 : decode cX11_law 76 = .ok (.invokevirtual 120, 3) := by decide +kernel
theorem dX11_law_79 : decode cX11_law 79 = .ok (.ireturn, 1) := by decide +kernel
theorem dX11_orders_0 : decode cX11_orders 0 = .ok (.aload_n 0, 1) := by decide +kernel
theorem dX11_orders_1 : decode cX11_orders 1 = .ok (.iconst (-1), 1) := by decide +kernel
theorem dX11_orders_2 : decode cX11_orders 2 = .ok (.putfield 96, 3) := by decide +kernel
theorem dX11_orders_5 : decode cX11_orders 5 = .ok (.aload_n 0, 1) := by decide +kernel
theorem dX11_orders_6 : decode cX11_orders 6 = .ok (.aload_n 0, 1) := by decide +kernel
theorem dX11_orders_7 : decode cX11_orders 7 = .ok (.getfield 38, 3) := by decide +kernel
theorem dX11_orders_10 : decode cX11_orders 10 = .ok (.aload_n 0, 1) := by decide +kernel
theorem dX11_orders_11 : decode cX11_orders 11 = .ok (.getfield 31, 3) := by decide +kernel
theorem dX11_orders_14 : decode cX11_orders 14 = .ok (.iconst 0, 1) := by decide +kernel
theorem dX11_orders_15 : decode cX11_orders 15 = .ok (.invokevirtual 209, 3) := by decide +kernel
theorem dX11_orders_18 : decode cX11_orders 18 = .ok (.putfield 93, 3) := by decide +kernel
theorem dX11_orders_21 : decode cX11_orders 21 = .ok (.aload_n 0, 1) := by decide +kernel
theorem dX11_orders_22 : decode cX11_orders 22 = .ok (.getfield 93, 3) := by decide +kernel
theorem dX11_orders_25 : decode cX11_orders 25 = .ok (.iconst (-1), 1) := by decide +kernel
theorem dX11_orders_26 : decode cX11_orders 26 = .ok (.if_icmp .eq 10, 3) := by decide +kernel
theorem dX11_orders_29 : decode cX11_orders 29 = .ok (.aload_n 0, 1) := by decide +kernel
theorem dX11_orders_30 : decode cX11_orders 30 = .ok (.bipush (-6), 2) := by decide +kernel
theorem dX11_orders_32 : decode cX11_orders 32 = .ok (.invokevirtual 106, 3) := by decide +kernel
theorem dX11_orders_35 : decode cX11_orders 35 = .ok (.ireturn, 1) := by decide +kernel
theorem dX11_orders_36 : decode cX11_orders 36 = .ok (.aload_n 0, 1) := by decide +kernel
theorem dX11_orders_37 : decode cX11_orders 37 = .ok (.getfield 65, 3) := by decide +kernel
theorem dX11_orders_40 : decode cX11_orders 40 = .ok (.aload_n 0, 1) := by decide +kernel
theorem dX11_orders_41 : decode cX11_orders 41 = .ok (.getfield 38, 3) := by decide +kernel
theorem dX11_orders_44 : decode cX11_orders 44 = .ok (.getfield 213, 3) := by decide +kernel
theorem dX11_orders_47 : decode cX11_orders 47 = .ok (.invokevirtual 227, 3) := by decide +kernel
theorem dX11_orders_50 : decode cX11_orders 50 = .ok (.istore_n 1, 1) := by decide +kernel
theorem dX11_orders_51 : decode cX11_orders 51 = .ok (.aload_n 0, 1) := by decide +kernel
theorem dX11_orders_52 : decode cX11_orders 52 = .ok (.aload_n 0, 1) := by decide +kernel
theorem dX11_orders_53 : decode cX11_orders 53 = .ok (.getfield 65, 3) := by decide +kernel
theorem dX11_orders_56 : decode cX11_orders 56 = .ok (.getfield 230, 3) := by decide +kernel
theorem dX11_orders_59 : decode cX11_orders 59 = .ok (.putfield 96, 3) := by decide +kernel
theorem dX11_orders_62 : decode cX11_orders 62 = .ok (.aload_n 0, 1) := by decide +kernel
theorem dX11_orders_63 : decode cX11_orders 63 = .ok (.iload_n 1, 1) := by decide +kernel
theorem dX11_orders_64 : decode cX11_orders 64 = .ok (.invokevirtual 233, 3) := by decide +kernel
theorem dX11_orders_67 : decode cX11_orders 67 = .ok (.ireturn, 1) := by decide +kernel
theorem dX11_fault_0 : decode cX11_fault 0 = .ok (.aload_n 0, 1) := by decide +kernel
theorem dX11_fault_1 : decode cX11_fault 1 = .ok (.getfield 93, 3) := by decide +kernel
theorem dX11_fault_4 : decode cX11_fault 4 = .ok (.ireturn, 1) := by decide +kernel
theorem dX11_stopped_0 : decode cX11_stopped 0 = .ok (.aload_n 0, 1) := by decide +kernel
theorem dX11_stopped_1 : decode cX11_stopped 1 = .ok (.getfield 96, 3) := by decide +kernel
theorem dX11_stopped_4 : decode cX11_stopped 4 = .ok (.ireturn, 1) := by decide +kernel
theorem dX11_force_0 : decode cX11_force 0 = .ok (.iload_n 1, 1) := by decide +kernel
theorem dX11_force_1 : decode cX11_force 1 = .ok (.iconst (-1), 1) := by decide +kernel
theorem dX11_force_2 : decode cX11_force 2 = .ok (.if_icmp .eq 21, 3) := by decide +kernel
theorem dX11_force_5 : decode cX11_force 5 = .ok (.aload_n 0, 1) := by decide +kernel
theorem dX11_force_6 : decode cX11_force 6 = .ok (.getfield 15, 3) := by decide +kernel
theorem dX11_force_9 : decode cX11_force 9 = .ok (.iload_n 1, 1) := by decide +kernel
theorem dX11_force_10 : decode cX11_force 10 = .ok (.invokevirtual 236, 3) := by decide +kernel
theorem dX11_force_13 : decode cX11_force 13 = .ok (.ifCond .ne 10, 3) := by decide +kernel
theorem dX11_force_16 : decode cX11_force 16 = .ok (.aload_n 0, 1) := by decide +kernel
theorem dX11_force_17 : decode cX11_force 17 = .ok (.bipush (-2), 2) := by decide +kernel
theorem dX11_force_19 : decode cX11_force 19 = .ok (.invokevirtual 106, 3) := by decide +kernel
theorem dX11_force_22 : decode cX11_force 22 = .ok (.ireturn, 1) := by decide +kernel
theorem dX11_force_23 : decode cX11_force 23 = .ok (.aload_n 0, 1) := by decide +kernel
theorem dX11_force_24 : decode cX11_force 24 = .ok (.getfield 15, 3) := by decide +kernel
theorem dX11_force_27 : decode cX11_force 27 = .ok (.getfield 239, 3) := by decide +kernel
theorem dX11_force_30 : decode cX11_force 30 = .ok (.istore_n 2, 1) := by decide +kernel
theorem dX11_force_31 : decode cX11_force 31 = .ok (.aload_n 0, 1) := by decide +kernel
theorem dX11_force_32 : decode cX11_force 32 = .ok (.getfield 15, 3) := by decide +kernel
theorem dX11_force_35 : decode cX11_force 35 = .ok (.iload_n 1, 1) := by decide +kernel
theorem dX11_force_36 : decode cX11_force 36 = .ok (.putfield 239, 3) := by decide +kernel
theorem dX11_force_39 : decode cX11_force 39 = .ok (.aload_n 0, 1) := by decide +kernel
theorem dX11_force_40 : decode cX11_force 40 = .ok (.iload_n 2, 1) := by decide +kernel
theorem dX11_force_41 : decode cX11_force 41 = .ok (.invokevirtual 120, 3) := by decide +kernel
theorem dX11_force_44 : decode cX11_force 44 = .ok (.ireturn, 1) := by decide +kernel
theorem dX11_sign_0 : decode cX11_sign 0 = .ok (.aload_n 0, 1) := by decide +kernel
theorem dX11_sign_1 : decode cX11_sign 1 = .ok (.aload_n 0, 1) := by decide +kernel
theorem dX11_sign_2 : decode cX11_sign 2 = .ok (.getfield 56, 3) := by decide +kernel
theorem dX11_sign_5 : decode cX11_sign 5 = .ok (.iconst 0, 1) := by decide +kernel
theorem dX11_sign_6 : decode cX11_sign 6 = .ok (.iload_n 1, 1) := by decide +kernel
theorem dX11_sign_7 : decode cX11_sign 7 = .ok (.iload_n 2, 1) := by decide +kernel
theorem dX11_sign_8 : decode cX11_sign 8 = .ok (.invokevirtual 242, 3) := by decide +kernel
theorem dX11_sign_11 : decode cX11_sign 11 = .ok (.invokevirtual 233, 3) := by decide +kernel
theorem dX11_sign_14 : decode cX11_sign 14 = .ok (.ireturn, 1) := by decide +kernel
theorem dX11_die_0 : decode cX11_die 0 = .ok (.aload_n 0, 1) := by decide +kernel
theorem dX11_die_1 : decode cX11_die 1 = .ok (.aload_n 0, 1) := by decide +kernel
theorem dX11_die_2 : decode cX11_die 2 = .ok (.getfield 56, 3) := by decide +kernel
theorem dX11_die_5 : decode cX11_die 5 = .ok (.iconst 1, 1) := by decide +kernel
theorem dX11_die_6 : decode cX11_die 6 = .ok (.iload_n 1, 1) := by decide +kernel
theorem dX11_die_7 : decode cX11_die 7 = .ok (.iload_n 2, 1) := by decide +kernel
theorem dX11_die_8 : decode cX11_die 8 = .ok (.invokevirtual 242, 3) := by decide +kernel
theorem dX11_die_11 : decode cX11_die 11 = .ok (.invokevirtual 233, 3) := by decide +kernel
theorem dX11_die_14 : decode cX11_die 14 = .ok (.ireturn, 1) := by decide +kernel
theorem dX11_clip_0 : decode cX11_clip 0 = .ok (.aload_n 0, 1) := by decide +kernel
theorem dX11_clip_1 : decode cX11_clip 1 = .ok (.aload_n 0, 1) := by decide +kernel
theorem dX11_clip_2 : decode cX11_clip 2 = .ok (.getfield 56, 3) := by decide +kernel
theorem dX11_clip_5 : decode cX11_clip 5 = .ok (.iconst 2, 1) := by decide +kernel
theorem dX11_clip_6 : decode cX11_clip 6 = .ok (.iload_n 1, 1) := by decide +kernel
theorem dX11_clip_7 : decode cX11_clip 7 = .ok (.iload_n 2, 1) := by decide +kernel
theorem dX11_clip_8 : decode cX11_clip 8 = .ok (.invokevirtual 242, 3) := by decide +kernel
theorem dX11_clip_11 : decode cX11_clip 11 = .ok (.invokevirtual 233, 3) := by decide +kernel
theorem dX11_clip_14 : decode cX11_clip 14 = .ok (.ireturn, 1) := by decide +kernel
theorem dX11_pass_0 : decode cX11_pass 0 = .ok (.aload_n 0, 1) := by decide +kernel
theorem dX11_pass_1 : decode cX11_pass 1 = .ok (.aload_n 0, 1) := by decide +kernel
theorem dX11_pass_2 : decode cX11_pass 2 = .ok (.getfield 56, 3) := by decide +kernel
theorem dX11_pass_5 : decode cX11_pass 5 = .ok (.iconst 3, 1) := by decide +kernel
theorem dX11_pass_6 : decode cX11_pass 6 = .ok (.iconst 0, 1) := by decide +kernel
theorem dX11_pass_7 : decode cX11_pass 7 = .ok (.iconst 0, 1) := by decide +kernel
theorem dX11_pass_8 : decode cX11_pass 8 = .ok (.invokevirtual 242, 3) := by decide +kernel
theorem dX11_pass_11 : decode cX11_pass 11 = .ok (.invokevirtual 233, 3) := by decide +kernel
theorem dX11_pass_14 : decode cX11_pass 14 = .ok (.ireturn, 1) := by decide +kernel
theorem dX11_undo_0 : decode cX11_undo 0 = .ok (.aload_n 0, 1) := by decide +kernel
theorem dX11_undo_1 : decode cX11_undo 1 = .ok (.getfield 56, 3) := by decide +kernel
theorem dX11_undo_4 : decode cX11_undo 4 = .ok (.invokevirtual 245, 3) := by decide +kernel
theorem dX11_undo_7 : decode cX11_undo 7 = .ok (.istore_n 1, 1) := by decide +kernel
theorem dX11_undo_8 : decode cX11_undo 8 = .ok (.iload_n 1, 1) := by decide +kernel
theorem dX11_undo_9 : decode cX11_undo 9 = .ok (.iconst (-1), 1) := by decide +kernel
theorem dX11_undo_10 : decode cX11_undo 10 = .ok (.if_icmp .ne 12, 3) := by decide +kernel
theorem dX11_undo_13 : decode cX11_undo 13 = .ok (.aload_n 0, 1) := by decide +kernel
theorem dX11_undo_14 : decode cX11_undo 14 = .ok (.bipush (-3), 2) := by decide +kernel
theorem dX11_undo_16 : decode cX11_undo 16 = .ok (.invokevirtual 106, 3) := by decide +kernel
theorem dX11_undo_19 : decode cX11_undo 19 = .ok (.goto 8, 3) := by decide +kernel
theorem dX11_undo_22 : decode cX11_undo 22 = .ok (.aload_n 0, 1) := by decide +kernel
theorem dX11_undo_23 : decode cX11_undo 23 = .ok (.iload_n 1, 1) := by decide +kernel
theorem dX11_undo_24 : decode cX11_undo 24 = .ok (.invokevirtual 120, 3) := by decide +kernel
theorem dX11_undo_27 : decode cX11_undo 27 = .ok (.ireturn, 1) := by decide +kernel
theorem dX11_had_0 : decode cX11_had 0 = .ok (.aload_n 0, 1) := by decide +kernel
theorem dX11_had_1 : decode cX11_had 1 = .ok (.getfield 15, 3) := by decide +kernel
theorem dX11_had_4 : decode cX11_had 4 = .ok (.iload_n 1, 1) := by decide +kernel
theorem dX11_had_5 : decode cX11_had 5 = .ok (.invokevirtual 148, 3) := by decide +kernel
theorem dX11_had_8 : decode cX11_had 8 = .ok (.ifCond .eq 13, 3) := by decide +kernel
theorem dX11_had_11 : decode cX11_had 11 = .ok (.iload_n 2, 1) := by decide +kernel
theorem dX11_had_12 : decode cX11_had 12 = .ok (.ifCond .lt 9, 3) := by decide +kernel
theorem dX11_had_15 : decode cX11_had 15 = .ok (.iload_n 2, 1) := by decide +kernel
theorem dX11_had_16 : decode cX11_had 16 = .ok (.bipush 9, 2) := by decide +kernel
theorem dX11_had_18 : decode cX11_had 18 = .ok (.if_icmp .le 7, 3) := by decide +kernel
theorem dX11_had_21 : decode cX11_had 21 = .ok (.ldc2_w 249, 3) := by decide +kernel
theorem dX11_had_24 : decode cX11_had 24 = .ok (.lreturn, 1) := by decide +kernel
theorem dX11_had_25 : decode cX11_had 25 = .ok (.aload_n 0, 1) := by decide +kernel
theorem dX11_had_26 : decode cX11_had 26 = .ok (.getfield 74, 3) := by decide +kernel
theorem dX11_had_29 : decode cX11_had 29 = .ok (.aload_n 0, 1) := by decide +kernel
theorem dX11_had_30 : decode cX11_had 30 = .ok (.getfield 15, 3) := by decide +kernel
theorem dX11_had_33 : decode cX11_had 33 = .ok (.iload_n 1, 1) := by decide +kernel
theorem dX11_had_34 : decode cX11_had 34 = .ok (.iload_n 2, 1) := by decide +kernel
theorem dX11_had_35 : decode cX11_had 35 = .ok (.invokevirtual 251, 3) := by decide +kernel
theorem dX11_had_38 : decode cX11_had 38 = .ok (.lreturn, 1) := by decide +kernel
theorem dX11_next_0 : decode cX11_next 0 = .ok (.aload_n 0, 1) := by decide +kernel
theorem dX11_next_1 : decode cX11_next 1 = .ok (.getfield 15, 3) := by decide +kernel
theorem dX11_next_4 : decode cX11_next 4 = .ok (.iload_n 1, 1) := by decide +kernel
theorem dX11_next_5 : decode cX11_next 5 = .ok (.invokevirtual 148, 3) := by decide +kernel
theorem dX11_next_8 : decode cX11_next 8 = .ok (.ifCond .eq 13, 3) := by decide +kernel
theorem dX11_next_11 : decode cX11_next 11 = .ok (.iload_n 2, 1) := by decide +kernel
theorem dX11_next_12 : decode cX11_next 12 = .ok (.ifCond .lt 9, 3) := by decide +kernel
theorem dX11_next_15 : decode cX11_next 15 = .ok (.iload_n 2, 1) := by decide +kernel
theorem dX11_next_16 : decode cX11_next 16 = .ok (.bipush 9, 2) := by decide +kernel
theorem dX11_next_18 : decode cX11_next 18 = .ok (.if_icmp .le 5, 3) := by decide +kernel
theorem dX11_next_21 : decode cX11_next 21 = .ok (.iconst (-1), 1) := by decide +kernel
theorem dX11_next_22 : decode cX11_next 22 = .ok (.ireturn, 1) := by decide +kernel
theorem dX11_next_23 : decode cX11_next 23 = .ok (.aload_n 0, 1) := by decide +kernel
theorem dX11_next_24 : decode cX11_next 24 = .ok (.getfield 74, 3) := by decide +kernel
theorem dX11_next_27 : decode cX11_next 27 = .ok (.aload_n 0, 1) := by decide +kernel
theorem dX11_next_28 : decode cX11_next 28 = .ok (.getfield 15, 3) := by decide +kernel
theorem dX11_next_31 : decode cX11_next 31 = .ok (.iload_n 1, 1) := by decide +kernel
theorem dX11_next_32 : decode cX11_next 32 = .ok (.iload_n 2, 1) := by decide +kernel
theorem dX11_next_33 : decode cX11_next 33 = .ok (.invokevirtual 255, 3) := by decide +kernel
theorem dX11_next_36 : decode cX11_next 36 = .ok (.ireturn, 1) := by decide +kernel
theorem dX11_likely_0 : decode cX11_likely 0 = .ok (.aload_n 0, 1) := by decide +kernel
theorem dX11_likely_1 : decode cX11_likely 1 = .ok (.getfield 15, 3) := by decide +kernel
theorem dX11_likely_4 : decode cX11_likely 4 = .ok (.iload_n 1, 1) := by decide +kernel
theorem dX11_likely_5 : decode cX11_likely 5 = .ok (.invokevirtual 123, 3) := by decide +kernel
theorem dX11_likely_8 : decode cX11_likely 8 = .ok (.ifCond .eq 13, 3) := by decide +kernel
theorem dX11_likely_11 : decode cX11_likely 11 = .ok (.iload_n 2, 1) := by decide +kernel
theorem dX11_likely_12 : decode cX11_likely 12 = .ok (.ifCond .lt 9, 3) := by decide +kernel
theorem dX11_likely_15 : decode cX11_likely 15 = .ok (.iload_n 2, 1) := by decide +kernel
theorem dX11_likely_16 : decode cX11_likely 16 = .ok (.bipush 60, 2) := by decide +kernel
theorem dX11_likely_18 : decode cX11_likely 18 = .ok (.if_icmp .le 7, 3) := by decide +kernel
theorem dX11_likely_21 : decode cX11_likely 21 = .ok (.ldc2_w 249, 3) := by decide +kernel
theorem dX11_likely_24 : decode cX11_likely 24 = .ok (.lreturn, 1) := by decide +kernel
theorem dX11_likely_25 : decode cX11_likely 25 = .ok (.aload_n 0, 1) := by decide +kernel
theorem dX11_likely_26 : decode cX11_likely 26 = .ok (.getfield 15, 3) := by decide +kernel
theorem dX11_likely_29 : decode cX11_likely 29 = .ok (.iload_n 1, 1) := by decide +kernel
theorem dX11_likely_30 : decode cX11_likely 30 = .ok (.invokevirtual 148, 3) := by decide +kernel
theorem dX11_likely_33 : decode cX11_likely 33 = .ok (.ifCond .eq 19, 3) := by decide +kernel
theorem dX11_likely_36 : decode cX11_likely 36 = .ok (.aload_n 0, 1) := by decide +kernel
theorem dX11_likely_37 : decode cX11_likely 37 = .ok (.getfield 74, 3) := by decide +kernel
theorem dX11_likely_40 : decode cX11_likely 40 = .ok (.aload_n 0, 1) := by decide +kernel
theorem dX11_likely_41 : decode cX11_likely 41 = .ok (.getfield 15, 3) := by decide +kernel
theorem dX11_likely_44 : decode cX11_likely 44 = .ok (.iload_n 1, 1) := by decide +kernel
theorem dX11_likely_45 : decode cX11_likely 45 = .ok (.iload_n 2, 1) := by decide +kernel
theorem dX11_likely_46 : decode cX11_likely 46 = .ok (.invokevirtual 259, 3) := by decide +kernel
theorem dX11_likely_49 : decode cX11_likely 49 = .ok (.goto 4, 3) := by decide +kernel
theorem dX11_likely_52 : decode cX11_likely 52 = .ok (.lconst 0, 1) := by decide +kernel
theorem dX11_likely_53 : decode cX11_likely 53 = .ok (.lreturn, 1) := by decide +kernel
theorem dX11_seen_0 : decode cX11_seen 0 = .ok (.iload_n 1, 1) := by decide +kernel
theorem dX11_seen_1 : decode cX11_seen 1 = .ok (.ifCond .lt 9, 3) := by decide +kernel
theorem dX11_seen_4 : decode cX11_seen 4 = .ok (.iload_n 1, 1) := by decide +kernel
theorem dX11_seen_5 : decode cX11_seen 5 = .ok (.bipush 10, 2) := by decide +kernel
theorem dX11_seen_7 : decode cX11_seen 7 = .ok (.if_icmp .lt 9, 3) := by decide +kernel
theorem dX11_seen_10 : decode cX11_seen 10 = .ok (.aload_n 0, 1) := by decide +kernel
theorem dX11_seen_11 : decode cX11_seen 11 = .ok (.iconst (-1), 1) := by decide +kernel
theorem dX11_seen_12 : decode cX11_seen 12 = .ok (.invokevirtual 106, 3) := by decide +kernel
theorem dX11_seen_15 : decode cX11_seen 15 = .ok (.ireturn, 1) := by decide +kernel
theorem dX11_seen_16 : decode cX11_seen 16 = .ok (.aload_n 0, 1) := by decide +kernel
theorem dX11_seen_17 : decode cX11_seen 17 = .ok (.getfield 15, 3) := by decide +kernel
theorem dX11_seen_20 : decode cX11_seen 20 = .ok (.getfield 262, 3) := by decide +kernel
theorem dX11_seen_23 : decode cX11_seen 23 = .ok (.bipush 8, 2) := by decide +kernel
theorem dX11_seen_25 : decode cX11_seen 25 = .ok (.if_icmp .lt 10, 3) := by decide +kernel
theorem dX11_seen_28 : decode cX11_seen 28 = .ok (.aload_n 0, 1) := by decide +kernel
theorem dX11_seen_29 : decode cX11_seen 29 = .ok (.bipush (-5), 2) := by decide +kernel
theorem dX11_seen_31 : decode cX11_seen 31 = .ok (.invokevirtual 106, 3) := by decide +kernel
theorem dX11_seen_34 : decode cX11_seen 34 = .ok (.ireturn, 1) := by decide +kernel
theorem dX11_seen_35 : decode cX11_seen 35 = .ok (.aload_n 0, 1) := by decide +kernel
theorem dX11_seen_36 : decode cX11_seen 36 = .ok (.getfield 15, 3) := by decide +kernel
theorem dX11_seen_39 : decode cX11_seen 39 = .ok (.getfield 265, 3) := by decide +kernel
theorem dX11_seen_42 : decode cX11_seen 42 = .ok (.aload_n 0, 1) := by decide +kernel
theorem dX11_seen_43 : decode cX11_seen 43 = .ok (.getfield 15, 3) := by decide +kernel
theorem dX11_seen_46 : decode cX11_seen 46 = .ok (.getfield 262, 3) := by decide +kernel
theorem dX11_seen_49 : decode cX11_seen 49 = .ok (.iload_n 1, 1) := by decide +kernel
theorem dX11_seen_50 : decode cX11_seen 50 = .ok (.iastore, 1) := by decide +kernel
theorem dX11_seen_51 : decode cX11_seen 51 = .ok (.aload_n 0, 1) := by decide +kernel
theorem dX11_seen_52 : decode cX11_seen 52 = .ok (.getfield 15, 3) := by decide +kernel
theorem dX11_seen_55 : decode cX11_seen 55 = .ok (.dup, 1) := by decide +kernel
theorem dX11_seen_56 : decode cX11_seen 56 = .ok (.getfield 262, 3) := by decide +kernel
theorem dX11_seen_59 : decode cX11_seen 59 = .ok (.iconst 1, 1) := by decide +kernel
theorem dX11_seen_60 : decode cX11_seen 60 = .ok (.iadd, 1) := by decide +kernel
theorem dX11_seen_61 : decode cX11_seen 61 = .ok (.putfield 262, 3) := by decide +kernel
theorem dX11_seen_64 : decode cX11_seen 64 = .ok (.aload_n 0, 1) := by decide +kernel
theorem dX11_seen_65 : decode cX11_seen 65 = .ok (.aload_n 0, 1) := by decide +kernel
theorem dX11_seen_66 : decode cX11_seen 66 = .ok (.getfield 15, 3) := by decide +kernel
theorem dX11_seen_69 : decode cX11_seen 69 = .ok (.getfield 262, 3) := by decide +kernel
theorem dX11_seen_72 : decode cX11_seen 72 = .ok (.invokevirtual 120, 3) := by decide +kernel
theorem dX11_seen_75 : decode cX11_seen 75 = .ok (.ireturn, 1) := by decide +kernel
theorem dX11_forget_0 : decode cX11_forget 0 = .ok (.aload_n 0, 1) := by decide +kernel
theorem dX11_forget_1 : decode cX11_forget 1 = .ok (.getfield 15, 3) := by decide +kernel
theorem dX11_forget_4 : decode cX11_forget 4 = .ok (.getfield 262, 3) := by decide +kernel
theorem dX11_forget_7 : decode cX11_forget 7 = .ok (.istore_n 1, 1) := by decide +kernel
theorem dX11_forget_8 : decode cX11_forget 8 = .ok (.aload_n 0, 1) := by decide +kernel
theorem dX11_forget_9 : decode cX11_forget 9 = .ok (.getfield 15, 3) := by decide +kernel
theorem dX11_forget_12 : decode cX11_forget 12 = .ok (.iconst 0, 1) := by decide +kernel
theorem dX11_forget_13 : decode cX11_forget 13 = .ok (.putfield 262, 3) := by decide +kernel
theorem dX11_forget_16 : decode cX11_forget 16 = .ok (.iload_n 1, 1) := by decide +kernel
theorem dX11_forget_17 : decode cX11_forget 17 = .ok (.ireturn, 1) := by decide +kernel
theorem dX11_canBe_0 : decode cX11_canBe 0 = .ok (.aload_n 0, 1) := by decide +kernel
theorem dX11_canBe_1 : decode cX11_canBe 1 = .ok (.getfield 15, 3) := by decide +kernel
theorem dX11_canBe_4 : decode cX11_canBe 4 = .ok (.iload_n 1, 1) := by decide +kernel
theorem dX11_canBe_5 : decode cX11_canBe 5 = .ok (.invokevirtual 123, 3) := by decide +kernel
theorem dX11_canBe_8 : decode cX11_canBe 8 = .ok (.ifCond .eq 18, 3) := by decide +kernel
theorem dX11_canBe_11 : decode cX11_canBe 11 = .ok (.aload_n 0, 1) := by decide +kernel
theorem dX11_canBe_12 : decode cX11_canBe 12 = .ok (.getfield 81, 3) := by decide +kernel
theorem dX11_canBe_15 : decode cX11_canBe 15 = .ok (.aload_n 0, 1) := by decide +kernel
theorem dX11_canBe_16 : decode cX11_canBe 16 = .ok (.getfield 15, 3) := by decide +kernel
theorem dX11_canBe_19 : decode cX11_canBe 19 = .ok (.iload_n 1, 1) := by decide +kernel
theorem dX11_canBe_20 : decode cX11_canBe 20 = .ok (.invokevirtual 268, 3) := by decide +kernel
theorem dX11_canBe_23 : decode cX11_canBe 23 = .ok (.goto 4, 3) := by decide +kernel
theorem dX11_canBe_26 : decode cX11_canBe 26 = .ok (.iconst (-1), 1) := by decide +kernel
theorem dX11_canBe_27 : decode cX11_canBe 27 = .ok (.ireturn, 1) := by decide +kernel
theorem dX11_look_0 : decode cX11_look 0 = .ok (.aload_n 0, 1) := by decide +kernel
theorem dX11_look_1 : decode cX11_look 1 = .ok (.getfield 15, 3) := by decide +kernel
theorem dX11_look_4 : decode cX11_look 4 = .ok (.iload_n 1, 1) := by decide +kernel
theorem dX11_look_5 : decode cX11_look 5 = .ok (.invokevirtual 123, 3) := by decide +kernel
theorem dX11_look_8 : decode cX11_look 8 = .ok (.ifCond .eq 27, 3) := by decide +kernel
theorem dX11_look_11 : decode cX11_look 11 = .ok (.iload_n 2, 1) := by decide +kernel
theorem dX11_look_12 : decode cX11_look 12 = .ok (.ifCond .lt 23, 3) := by decide +kernel
theorem dX11_look_15 : decode cX11_look 15 = .ok (.iload_n 2, 1) := by decide +kernel
theorem dX11_look_16 : decode cX11_look 16 = .ok (.iconst 1, 1) := by decide +kernel
theorem dX11_look_17 : decode cX11_look 17 = .ok (.if_icmp .gt 18, 3) := by decide +kernel
theorem dX11_look_20 : decode cX11_look 20 = .ok (.aload_n 0, 1) := by decide +kernel
theorem dX11_look_21 : decode cX11_look 21 = .ok (.getfield 81, 3) := by decide +kernel
theorem dX11_look_24 : decode cX11_look 24 = .ok (.aload_n 0, 1) := by decide +kernel
theorem dX11_look_25 : decode cX11_look 25 = .ok (.getfield 15, 3) := by decide +kernel
theorem dX11_look_28 : decode cX11_look 28 = .ok (.iload_n 1, 1) := by decide +kernel
theorem dX11_look_29 : decode cX11_look 29 = .ok (.invokevirtual 271, 3) := by decide +kernel
theorem dX11_look_32 : decode cX11_look 32 = .ok (.ifCond .ne 5, 3) := by decide +kernel
theorem dX11_look_35 : decode cX11_look 35 = .ok (.iconst (-1), 1) := by decide +kernel
theorem dX11_look_36 : decode cX11_look 36 = .ok (.ireturn, 1) := by decide +kernel
theorem dX11_look_37 : decode cX11_look 37 = .ok (.iload_n 2, 1) := by decide +kernel
theorem dX11_look_38 : decode cX11_look 38 = .ok (.ifCond .ne 13, 3) := by decide +kernel
theorem dX11_look_41 : decode cX11_look 41 = .ok (.aload_n 0, 1) := by decide +kernel
theorem dX11_look_42 : decode cX11_look 42 = .ok (.getfield 81, 3) := by decide +kernel
theorem dX11_look_45 : decode cX11_look 45 = .ok (.getfield 275, 3) := by decide +kernel
theorem dX11_look_48 : decode cX11_look 48 = .ok (.goto 10, 3) := by decide +kernel
theorem dX11_look_51 : decode cX11_look 51 = .ok (.aload_n 0, 1) := by decide +kernel
theorem dX11_look_52 : decode cX11_look 52 = .ok (.getfield 81, 3) := by decide +kernel
theorem dX11_look_55 : decode cX11_look 55 = .ok (.getfield 278, 3) := by decide +kernel
theorem dX11_look_58 : decode cX11_look 58 = .ok (.ireturn, 1) := by decide +kernel
theorem dX11_explained_0 : decode cX11_explained 0 = .ok (.aload_n 0, 1) := by decide +kernel
theorem dX11_explained_1 : decode cX11_explained 1 = .ok (.getfield 15, 3) := by decide +kernel
theorem dX11_explained_4 : decode cX11_explained 4 = .ok (.iload_n 1, 1) := by decide +kernel
theorem dX11_explained_5 : decode cX11_explained 5 = .ok (.invokevirtual 148, 3) := by decide +kernel
theorem dX11_explained_8 : decode cX11_explained 8 = .ok (.ifCond .eq 18, 3) := by decide +kernel
theorem dX11_explained_11 : decode cX11_explained 11 = .ok (.aload_n 0, 1) := by decide +kernel
theorem dX11_explained_12 : decode cX11_explained 12 = .ok (.getfield 81, 3) := by decide +kernel
theorem dX11_explained_15 : decode cX11_explained 15 = .ok (.aload_n 0, 1) := by decide +kernel
theorem dX11_explained_16 : decode cX11_explained 16 = .ok (.getfield 15, 3) := by decide +kernel
theorem dX11_explained_19 : decode cX11_explained 19 = .ok (.iload_n 1, 1) := by decide +kernel
theorem dX11_explained_20 : decode cX11_explained 20 = .ok (.invokevirtual 281, 3) := by decide +kernel
theorem dX11_explained_23 : decode cX11_explained 23 = .ok (.goto 4, 3) := by decide +kernel
theorem dX11_explained_26 : decode cX11_explained 26 = .ok (.iconst (-1), 1) := by decide +kernel
theorem dX11_explained_27 : decode cX11_explained 27 = .ok (.ireturn, 1) := by decide +kernel
theorem dX11_complete_0 : decode cX11_complete 0 = .ok (.aload_n 0, 1) := by decide +kernel
theorem dX11_complete_1 : decode cX11_complete 1 = .ok (.getfield 15, 3) := by decide +kernel
theorem dX11_complete_4 : decode cX11_complete 4 = .ok (.iload_n 1, 1) := by decide +kernel
theorem dX11_complete_5 : decode cX11_complete 5 = .ok (.invokevirtual 164, 3) := by decide +kernel
theorem dX11_complete_8 : decode cX11_complete 8 = .ok (.ifCond .eq 12, 3) := by decide +kernel
theorem dX11_complete_11 : decode cX11_complete 11 = .ok (.iload_n 2, 1) := by decide +kernel
theorem dX11_complete_12 : decode cX11_complete 12 = .ok (.ifCond .lt 8, 3) := by decide +kernel
theorem dX11_complete_15 : decode cX11_complete 15 = .ok (.iload_n 2, 1) := by decide +kernel
theorem dX11_complete_16 : decode cX11_complete 16 = .ok (.iconst 1, 1) := by decide +kernel
theorem dX11_complete_17 : decode cX11_complete 17 = .ok (.if_icmp .le 5, 3) := by decide +kernel
theorem dX11_complete_20 : decode cX11_complete 20 = .ok (.iconst (-1), 1) := by decide +kernel
theorem dX11_complete_21 : decode cX11_complete 21 = .ok (.ireturn, 1) := by decide +kernel
theorem dX11_complete_22 : decode cX11_complete 22 = .ok (.aload_n 0, 1) := by decide +kernel
theorem dX11_complete_23 : decode cX11_complete 23 = .ok (.getfield 15, 3) := by decide +kernel
theorem dX11_complete_26 : decode cX11_complete 26 = .ok (.invokevirtual 284, 3) := by decide +kernel
theorem dX11_complete_29 : decode cX11_complete 29 = .ok (.aload_n 0, 1) := by decide +kernel
theorem dX11_complete_30 : decode cX11_complete 30 = .ok (.getfield 47, 3) := by decide +kernel
theorem dX11_complete_33 : decode cX11_complete 33 = .ok (.aload_n 0, 1) := by decide +kernel
theorem dX11_complete_34 : decode cX11_complete 34 = .ok (.getfield 15, 3) := by decide +kernel
theorem dX11_complete_37 : decode cX11_complete 37 = .ok (.iload_n 1, 1) := by decide +kernel
theorem dX11_complete_38 : decode cX11_complete 38 = .ok (.invokevirtual 176, 3) := by decide +kernel
theorem dX11_complete_41 : decode cX11_complete 41 = .ok (.iconst (-1), 1) := by decide +kernel
theorem dX11_complete_42 : decode cX11_complete 42 = .ok (.ixor, 1) := by decide +kernel
theorem dX11_complete_43 : decode cX11_complete 43 = .ok (.iand, 1) := by decide +kernel
theorem dX11_complete_44 : decode cX11_complete 44 = .ok (.istore_n 3, 1) := by decide +kernel
theorem dX11_complete_45 : decode cX11_complete 45 = .ok (.aload_n 0, 1) := by decide +kernel
theorem dX11_complete_46 : decode cX11_complete 46 = .ok (.getfield 15, 3) := by decide +kernel
theorem dX11_complete_49 : decode cX11_complete 49 = .ok (.iload_n 1, 1) := by decide +kernel
theorem dX11_complete_50 : decode cX11_complete 50 = .ok (.invokevirtual 173, 3) := by decide +kernel
theorem dX11_complete_53 : decode cX11_complete 53 = .ok (.istore 4, 2) := by decide +kernel
theorem dX11_complete_55 : decode cX11_complete 55 = .ok (.iconst (-1), 1) := by decide +kernel
theorem dX11_complete_56 : decode cX11_complete 56 = .ok (.istore 5, 2) := by decide +kernel
theorem dX11_complete_58 : decode cX11_complete 58 = .ok (.iconst 0, 1) := by decide +kernel
theorem dX11_complete_59 : decode cX11_complete 59 = .ok (.istore 6, 2) := by decide +kernel
theorem dX11_complete_61 : decode cX11_complete 61 = .ok (.iload 6, 2) := by decide +kernel
theorem dX11_complete_63 : decode cX11_complete 63 = .ok (.bipush 64, 2) := by decide +kernel
theorem dX11_complete_65 : decode cX11_complete 65 = .ok (.if_icmp .ge 70, 3) := by decide +kernel
theorem dX11_complete_68 : decode cX11_complete 68 = .ok (.iload 6, 2) := by decide +kernel
theorem dX11_complete_70 : decode cX11_complete 70 = .ok (.iload_n 3, 1) := by decide +kernel
theorem dX11_complete_71 : decode cX11_complete 71 = .ok (.iconst (-1), 1) := by decide +kernel
theorem dX11_complete_72 : decode cX11_complete 72 = .ok (.ixor, 1) := by decide +kernel
theorem dX11_complete_73 : decode cX11_complete 73 = .ok (.iand, 1) := by decide +kernel
theorem dX11_complete_74 : decode cX11_complete 74 = .ok (.ifCond .ne 24, 3) := by decide +kernel
theorem dX11_complete_77 : decode cX11_complete 77 = .ok (.iload 4, 2) := by decide +kernel
theorem dX11_complete_79 : decode cX11_complete 79 = .ok (.aload_n 0, 1) := by decide +kernel
theorem dX11_complete_80 : decode cX11_complete 80 = .ok (.getfield 15, 3) := by decide +kernel
theorem dX11_complete_83 : decode cX11_complete 83 = .ok (.iload 6, 2) := by decide +kernel
theorem dX11_complete_85 : decode cX11_complete 85 = .ok (.invokevirtual 287, 3) := by decide +kernel
theorem dX11_complete_88 : decode cX11_complete 88 = .ok (.iconst (-1), 1) := by decide +kernel
theorem dX11_complete_89 : decode cX11_complete 89 = .ok (.ixor, 1) := by decide +kernel
theorem dX11_complete_90 : decode cX11_complete 90 = .ok (.iand, 1) := by decide +kernel
theorem dX11_complete_91 : decode cX11_complete 91 = .ok (.ifCond .ne 7, 3) := by decide +kernel
theorem dX11_complete_94 : decode cX11_complete 94 = .ok (.iconst 1, 1) := by decide +kernel
theorem dX11_complete_95 : decode cX11_complete 95 = .ok (.goto 4, 3) := by decide +kernel
theorem dX11_complete_98 : decode cX11_complete 98 = .ok (.iconst 0, 1) := by decide +kernel
theorem dX11_complete_99 : decode cX11_complete 99 = .ok (.istore 7, 2) := by decide +kernel
theorem dX11_complete_101 : decode cX11_complete 101 = .ok (.iload 7, 2) := by decide +kernel
theorem dX11_complete_103 : decode cX11_complete 103 = .ok (.ifCond .eq 26, 3) := by decide +kernel
theorem dX11_complete_106 : decode cX11_complete 106 = .ok (.iload 5, 2) := by decide +kernel
theorem dX11_complete_108 : decode cX11_complete 108 = .ok (.iconst (-1), 1) := by decide +kernel
theorem dX11_complete_109 : decode cX11_complete 109 = .ok (.if_icmp .eq 16, 3) := by decide +kernel
theorem dX11_complete_112 : decode cX11_complete 112 = .ok (.iload 6, 2) := by decide +kernel
theorem dX11_complete_114 : decode cX11_complete 114 = .ok (.invokestatic 290, 3) := by decide +kernel
theorem dX11_complete_117 : decode cX11_complete 117 = .ok (.iload 5, 2) := by decide +kernel
theorem dX11_complete_119 : decode cX11_complete 119 = .ok (.invokestatic 290, 3) := by decide +kernel
theorem dX11_complete_122 : decode cX11_complete 122 = .ok (.if_icmp .ge 7, 3) := by decide +kernel
theorem dX11_complete_125 : decode cX11_complete 125 = .ok (.iload 6, 2) := by decide +kernel
theorem dX11_complete_127 : decode cX11_complete 127 = .ok (.istore 5, 2) := by decide +kernel
theorem dX11_complete_129 : decode cX11_complete 129 = .ok (.iinc 6 1, 3) := by decide +kernel
theorem dX11_complete_132 : decode cX11_complete 132 = .ok (.goto (-71), 3) := by decide +kernel
theorem dX11_complete_135 : decode cX11_complete 135 = .ok (.iload_n 2, 1) := by decide +kernel
theorem dX11_complete_136 : decode cX11_complete 136 = .ok (.ifCond .ne 17, 3) := by decide +kernel
theorem dX11_complete_139 : decode cX11_complete 139 = .ok (.iload 5, 2) := by decide +kernel
theorem dX11_complete_141 : decode cX11_complete 141 = .ok (.iconst (-1), 1) := by decide +kernel
theorem dX11_complete_142 : decode cX11_complete 142 = .ok (.if_icmp .eq 11, 3) := by decide +kernel
theorem dX11_complete_145 : decode cX11_complete 145 = .ok (.iload 5, 2) := by decide +kernel
theorem dX11_complete_147 : decode cX11_complete 147 = .ok (.invokestatic 290, 3) := by decide +kernel
theorem dX11_complete_150 : decode cX11_complete 150 = .ok (.goto 5, 3) := by decide +kernel
theorem dX11_complete_153 : decode cX11_complete 153 = .ok (.iload 5, 2) := by decide +kernel
theorem dX11_complete_155 : decode cX11_complete 155 = .ok (.ireturn, 1) := by decide +kernel
theorem dX11_safe_0 : decode cX11_safe 0 = .ok (.aload_n 0, 1) := by decide +kernel
theorem dX11_safe_1 : decode cX11_safe 1 = .ok (.getfield 15, 3) := by decide +kernel
theorem dX11_safe_4 : decode cX11_safe 4 = .ok (.iload_n 1, 1) := by decide +kernel
theorem dX11_safe_5 : decode cX11_safe 5 = .ok (.invokevirtual 164, 3) := by decide +kernel
theorem dX11_safe_8 : decode cX11_safe 8 = .ok (.ifCond .ne 7, 3) := by decide +kernel
theorem dX11_safe_11 : decode cX11_safe 11 = .ok (.ldc2_w 249, 3) := by decide +kernel
theorem dX11_safe_14 : decode cX11_safe 14 = .ok (.lreturn, 1) := by decide +kernel
theorem dX11_safe_15 : decode cX11_safe 15 = .ok (.ldc2_w 295, 3) := by decide +kernel
theorem dX11_safe_18 : decode cX11_safe 18 = .ok (.lstore_n 2, 1) := by decide +kernel
theorem dX11_safe_19 : decode cX11_safe 19 = .ok (.iconst 0, 1) := by decide +kernel
theorem dX11_safe_20 : decode cX11_safe 20 = .ok (.istore 4, 2) := by decide +kernel
theorem dX11_safe_22 : decode cX11_safe 22 = .ok (.iload 4, 2) := by decide +kernel
theorem dX11_safe_24 : decode cX11_safe 24 = .ok (.aload_n 0, 1) := by decide +kernel
theorem dX11_safe_25 : decode cX11_safe 25 = .ok (.getfield 15, 3) := by decide +kernel
theorem dX11_safe_28 : decode cX11_safe 28 = .ok (.getfield 110, 3) := by decide +kernel
theorem dX11_safe_31 : decode cX11_safe 31 = .ok (.if_icmp .ge 57, 3) := by decide +kernel
theorem dX11_safe_34 : decode cX11_safe 34 = .ok (.aload_n 0, 1) := by decide +kernel
theorem dX11_safe_35 : decode cX11_safe 35 = .ok (.getfield 15, 3) := by decide +kernel
theorem dX11_safe_38 : decode cX11_safe 38 = .ok (.getfield 138, 3) := by decide +kernel
theorem dX11_safe_41 : decode cX11_safe 41 = .ok (.iload 4, 2) := by decide +kernel
theorem dX11_safe_43 : decode cX11_safe 43 = .ok (.iaload, 1) := by decide +kernel
theorem dX11_safe_44 : decode cX11_safe 44 = .ok (.iload_n 1, 1) := by decide +kernel
theorem dX11_safe_45 : decode cX11_safe 45 = .ok (.if_icmp .ne 37, 3) := by decide +kernel
theorem dX11_safe_48 : decode cX11_safe 48 = .ok (.aload_n 0, 1) := by decide +kernel
theorem dX11_safe_49 : decode cX11_safe 49 = .ok (.getfield 47, 3) := by decide +kernel
theorem dX11_safe_52 : decode cX11_safe 52 = .ok (.aload_n 0, 1) := by decide +kernel
theorem dX11_safe_53 : decode cX11_safe 53 = .ok (.getfield 15, 3) := by decide +kernel
theorem dX11_safe_56 : decode cX11_safe 56 = .ok (.iload 4, 2) := by decide +kernel
theorem dX11_safe_58 : decode cX11_safe 58 = .ok (.invokevirtual 151, 3) := by decide +kernel
theorem dX11_safe_61 : decode cX11_safe 61 = .ok (.lload_n 2, 1) := by decide +kernel
theorem dX11_safe_62 : decode cX11_safe 62 = .ok (.bipush 10, 2) := by decide +kernel
theorem dX11_safe_64 : decode cX11_safe 64 = .ok (.aload_n 0, 1) := by decide +kernel
theorem dX11_safe_65 : decode cX11_safe 65 = .ok (.getfield 47, 3) := by decide +kernel
theorem dX11_safe_68 : decode cX11_safe 68 = .ok (.sipush 264, 3) := by decide +kernel
theorem dX11_safe_71 : decode cX11_safe 71 = .ok (.invokevirtual 155, 3) := by decide +kernel
theorem dX11_safe_74 : decode cX11_safe 74 = .ok (.isub, 1) := by decide +kernel
theorem dX11_safe_75 : decode cX11_safe 75 = .ok (.i2l, 1) := by decide +kernel
theorem dX11_safe_76 : decode cX11_safe 76 = .ok (.lmul, 1) := by decide +kernel
theorem dX11_safe_77 : decode cX11_safe 77 = .ok (.ldc2_w 297, 3) := by decide +kernel
theorem dX11_safe_80 : decode cX11_safe 80 = .ok (.ldiv, 1) := by decide +kernel
theorem dX11_safe_81 : decode cX11_safe 81 = .ok (.lstore_n 2, 1) := by decide +kernel
theorem dX11_safe_82 : decode cX11_safe 82 = .ok (.iinc 4 1, 3) := by decide +kernel
theorem dX11_safe_85 : decode cX11_safe 85 = .ok (.goto (-63), 3) := by decide +kernel
theorem dX11_safe_88 : decode cX11_safe 88 = .ok (.lload_n 2, 1) := by decide +kernel
theorem dX11_safe_89 : decode cX11_safe 89 = .ok (.lreturn, 1) := by decide +kernel
theorem dX11_frauds_0 : decode cX11_frauds 0 = .ok (.iconst 0, 1) := by decide +kernel
theorem dX11_frauds_1 : decode cX11_frauds 1 = .ok (.istore_n 1, 1) := by decide +kernel
theorem dX11_frauds_2 : decode cX11_frauds 2 = .ok (.iconst 0, 1) := by decide +kernel
theorem dX11_frauds_3 : decode cX11_frauds 3 = .ok (.istore_n 2, 1) := by decide +kernel
theorem dX11_frauds_4 : decode cX11_frauds 4 = .ok (.iload_n 2, 1) := by decide +kernel
theorem dX11_frauds_5 : decode cX11_frauds 5 = .ok (.aload_n 0, 1) := by decide +kernel
theorem dX11_frauds_6 : decode cX11_frauds 6 = .ok (.getfield 15, 3) := by decide +kernel
theorem dX11_frauds_9 : decode cX11_frauds 9 = .ok (.getfield 110, 3) := by decide +kernel
theorem dX11_frauds_12 : decode cX11_frauds 12 = .ok (.if_icmp .ge 71, 3) := by decide +kernel
theorem dX11_frauds_15 : decode cX11_frauds 15 = .ok (.aload_n 0, 1) := by decide +kernel
theorem dX11_frauds_16 : decode cX11_frauds 16 = .ok (.getfield 15, 3) := by decide +kernel
theorem dX11_frauds_19 : decode cX11_frauds 19 = .ok (.getfield 132, 3) := by decide +kernel
theorem dX11_frauds_22 : decode cX11_frauds 22 = .ok (.iload_n 2, 1) := by decide +kernel
theorem dX11_frauds_23 : decode cX11_frauds 23 = .ok (.iaload, 1) := by decide +kernel
theorem dX11_frauds_24 : decode cX11_frauds 24 = .ok (.bipush 9, 2) := by decide +kernel
theorem dX11_frauds_26 : decode cX11_frauds 26 = .ok (.if_icmp .eq 7, 3) := by decide +kernel
theorem dX11_frauds_29 : decode cX11_frauds 29 = .ok (.iconst 1, 1) := by decide +kernel
theorem dX11_frauds_30 : decode cX11_frauds 30 = .ok (.goto 4, 3) := by decide +kernel
theorem dX11_frauds_33 : decode cX11_frauds 33 = .ok (.iconst 0, 1) := by decide +kernel
theorem dX11_frauds_34 : decode cX11_frauds 34 = .ok (.istore_n 3, 1) := by decide +kernel
theorem dX11_frauds_35 : decode cX11_frauds 35 = .ok (.aload_n 0, 1) := by decide +kernel
theorem dX11_frauds_36 : decode cX11_frauds 36 = .ok (.getfield 15, 3) := by decide +kernel
theorem dX11_frauds_39 : decode cX11_frauds 39 = .ok (.iload_n 2, 1) := by decide +kernel
theorem dX11_frauds_40 : decode cX11_frauds 40 = .ok (.invokevirtual 148, 3) := by decide +kernel
theorem dX11_frauds_43 : decode cX11_frauds 43 = .ok (.ifCond .eq 34, 3) := by decide +kernel
theorem dX11_frauds_46 : decode cX11_frauds 46 = .ok (.iload_n 3, 1) := by decide +kernel
theorem dX11_frauds_47 : decode cX11_frauds 47 = .ok (.ifCond .eq 30, 3) := by decide +kernel
theorem dX11_frauds_50 : decode cX11_frauds 50 = .ok (.aload_n 0, 1) := by decide +kernel
theorem dX11_frauds_51 : decode cX11_frauds 51 = .ok (.getfield 15, 3) := by decide +kernel
theorem dX11_frauds_54 : decode cX11_frauds 54 = .ok (.getfield 132, 3) := by decide +kernel
theorem dX11_frauds_57 : decode cX11_frauds 57 = .ok (.iload_n 2, 1) := by decide +kernel
theorem dX11_frauds_58 : decode cX11_frauds 58 = .ok (.iaload, 1) := by decide +kernel
theorem dX11_frauds_59 : decode cX11_frauds 59 = .ok (.aload_n 0, 1) := by decide +kernel
theorem dX11_frauds_60 : decode cX11_frauds 60 = .ok (.getfield 15, 3) := by decide +kernel
theorem dX11_frauds_63 : decode cX11_frauds 63 = .ok (.getfield 126, 3) := by decide +kernel
theorem dX11_frauds_66 : decode cX11_frauds 66 = .ok (.iload_n 2, 1) := by decide +kernel
theorem dX11_frauds_67 : decode cX11_frauds 67 = .ok (.iaload, 1) := by decide +kernel
theorem dX11_frauds_68 : decode cX11_frauds 68 = .ok (.if_icmp .eq 9, 3) := by decide +kernel
theorem dX11_frauds_71 : decode cX11_frauds 71 = .ok (.iload_n 1, 1) := by decide +kernel
theorem dX11_frauds_72 : decode cX11_frauds 72 = .ok (.iconst 1, 1) := by decide +kernel
theorem dX11_frauds_73 : decode cX11_frauds 73 = .ok (.iload_n 2, 1) := by decide +kernel
theorem dX11_frauds_74 : decode cX11_frauds 74 = .ok (.ishl, 1) := by decide +kernel
theorem dX11_frauds_75 : decode cX11_frauds 75 = .ok (.ior, 1) := by decide +kernel
theorem dX11_frauds_76 : decode cX11_frauds 76 = .ok (.istore_n 1, 1) := by decide +kernel
theorem dX11_frauds_77 : decode cX11_frauds 77 = .ok (.iinc 2 1, 3) := by decide +kernel
theorem dX11_frauds_80 : decode cX11_frauds 80 = .ok (.goto (-76), 3) := by decide +kernel
theorem dX11_frauds_83 : decode cX11_frauds 83 = .ok (.iload_n 1, 1) := by decide +kernel
theorem dX11_frauds_84 : decode cX11_frauds 84 = .ok (.ireturn, 1) := by decide +kernel
theorem dX11_passing_0 : decode cX11_passing 0 = .ok (.aload_n 0, 1) := by decide +kernel
theorem dX11_passing_1 : decode cX11_passing 1 = .ok (.getfield 81, 3) := by decide +kernel
theorem dX11_passing_4 : decode cX11_passing 4 = .ok (.aload_n 0, 1) := by decide +kernel
theorem dX11_passing_5 : decode cX11_passing 5 = .ok (.getfield 15, 3) := by decide +kernel
theorem dX11_passing_8 : decode cX11_passing 8 = .ok (.invokevirtual 299, 3) := by decide +kernel
theorem dX11_passing_11 : decode cX11_passing 11 = .ok (.iconst 0, 1) := by decide +kernel
theorem dX11_passing_12 : decode cX11_passing 12 = .ok (.istore_n 2, 1) := by decide +kernel
theorem dX11_passing_13 : decode cX11_passing 13 = .ok (.iconst 0, 1) := by decide +kernel
theorem dX11_passing_14 : decode cX11_passing 14 = .ok (.istore_n 3, 1) := by decide +kernel
theorem dX11_passing_15 : decode cX11_passing 15 = .ok (.iload_n 3, 1) := by decide +kernel
theorem dX11_passing_16 : decode cX11_passing 16 = .ok (.aload_n 0, 1) := by decide +kernel
theorem dX11_passing_17 : decode cX11_passing 17 = .ok (.getfield 15, 3) := by decide +kernel
theorem dX11_passing_20 : decode cX11_passing 20 = .ok (.getfield 110, 3) := by decide +kernel
theorem dX11_passing_23 : decode cX11_passing 23 = .ok (.if_icmp .ge 65, 3) := by decide +kernel
theorem dX11_passing_26 : decode cX11_passing 26 = .ok (.iload_n 3, 1) := by decide +kernel
theorem dX11_passing_27 : decode cX11_passing 27 = .ok (.iconst 1, 1) := by decide +kernel
theorem dX11_passing_28 : decode cX11_passing 28 = .ok (.iadd, 1) := by decide +kernel
theorem dX11_passing_29 : decode cX11_passing 29 = .ok (.istore 4, 2) := by decide +kernel
theorem dX11_passing_31 : decode cX11_passing 31 = .ok (.iload 4, 2) := by decide +kernel
theorem dX11_passing_33 : decode cX11_passing 33 = .ok (.aload_n 0, 1) := by decide +kernel
theorem dX11_passing_34 : decode cX11_passing 34 = .ok (.getfield 15, 3) := by decide +kernel
theorem dX11_passing_37 : decode cX11_passing 37 = .ok (.getfield 110, 3) := by decide +kernel
theorem dX11_passing_40 : decode cX11_passing 40 = .ok (.if_icmp .ge 42, 3) := by decide +kernel
theorem dX11_passing_43 : decode cX11_passing 43 = .ok (.aload_n 0, 1) := by decide +kernel
theorem dX11_passing_44 : decode cX11_passing 44 = .ok (.getfield 81, 3) := by decide +kernel
theorem dX11_passing_47 : decode cX11_passing 47 = .ok (.aload_n 0, 1) := by decide +kernel
theorem dX11_passing_48 : decode cX11_passing 48 = .ok (.getfield 15, 3) := by decide +kernel
theorem dX11_passing_51 : decode cX11_passing 51 = .ok (.iload_n 3, 1) := by decide +kernel
theorem dX11_passing_52 : decode cX11_passing 52 = .ok (.iload 4, 2) := by decide +kernel
theorem dX11_passing_54 : decode cX11_passing 54 = .ok (.invokevirtual 303, 3) := by decide +kernel
theorem dX11_passing_57 : decode cX11_passing 57 = .ok (.ifCond .eq 19, 3) := by decide +kernel
theorem dX11_passing_60 : decode cX11_passing 60 = .ok (.iload_n 2, 1) := by decide +kernel
theorem dX11_passing_61 : decode cX11_passing 61 = .ok (.iload_n 1, 1) := by decide +kernel
theorem dX11_passing_62 : decode cX11_passing 62 = .ok (.if_icmp .ne 11, 3) := by decide +kernel
theorem dX11_passing_65 : decode cX11_passing 65 = .ok (.bipush 10, 2) := by decide +kernel
theorem dX11_passing_67 : decode cX11_passing 67 = .ok (.iload_n 3, 1) := by decide +kernel
theorem dX11_passing_68 : decode cX11_passing 68 = .ok (.imul, 1) := by decide +kernel
theorem dX11_passing_69 : decode cX11_passing 69 = .ok (.iload 4, 2) := by decide +kernel
theorem dX11_passing_71 : decode cX11_passing 71 = .ok (.iadd, 1) := by decide +kernel
theorem dX11_passing_72 : decode cX11_passing 72 = .ok (.ireturn, 1) := by decide +kernel
theorem dX11_passing_73 : decode cX11_passing 73 = .ok (.iinc 2 1, 3) := by decide +kernel
theorem dX11_passing_76 : decode cX11_passing 76 = .ok (.iinc 4 1, 3) := by decide +kernel
theorem dX11_passing_79 : decode cX11_passing 79 = .ok (.goto (-48), 3) := by decide +kernel
theorem dX11_passing_82 : decode cX11_passing 82 = .ok (.iinc 3 1, 3) := by decide +kernel
theorem dX11_passing_85 : decode cX11_passing 85 = .ok (.goto (-70), 3) := by decide +kernel
theorem dX11_passing_88 : decode cX11_passing 88 = .ok (.iload_n 1, 1) := by decide +kernel
theorem dX11_passing_89 : decode cX11_passing 89 = .ok (.iconst (-1), 1) := by decide +kernel
theorem dX11_passing_90 : decode cX11_passing 90 = .ok (.if_icmp .ne 7, 3) := by decide +kernel
theorem dX11_passing_93 : decode cX11_passing 93 = .ok (.iload_n 2, 1) := by decide +kernel
theorem dX11_passing_94 : decode cX11_passing 94 = .ok (.goto 4, 3) := by decide +kernel
theorem dX11_passing_97 : decode cX11_passing 97 = .ok (.iconst (-1), 1) := by decide +kernel
theorem dX11_passing_98 : decode cX11_passing 98 = .ok (.ireturn, 1) := by decide +kernel
theorem dX11_unused_0 : decode cX11_unused 0 = .ok (.sipush 511, 3) := by decide +kernel
theorem dX11_unused_3 : decode cX11_unused 3 = .ok (.aload_n 0, 1) := by decide +kernel
theorem dX11_unused_4 : decode cX11_unused 4 = .ok (.getfield 15, 3) := by decide +kernel
theorem dX11_unused_7 : decode cX11_unused 7 = .ok (.bipush 63, 2) := by decide +kernel
theorem dX11_unused_9 : decode cX11_unused 9 = .ok (.invokevirtual 287, 3) := by decide +kernel
theorem dX11_unused_12 : decode cX11_unused 12 = .ok (.iconst (-1), 1) := by decide +kernel
theorem dX11_unused_13 : decode cX11_unused 13 = .ok (.ixor, 1) := by decide +kernel
theorem dX11_unused_14 : decode cX11_unused 14 = .ok (.iand, 1) := by decide +kernel
theorem dX11_unused_15 : decode cX11_unused 15 = .ok (.ireturn, 1) := by decide +kernel
theorem dX11_rich_0 : decode cX11_rich 0 = .ok (.iload_n 1, 1) := by decide +kernel
theorem dX11_rich_1 : decode cX11_rich 1 = .ok (.iconst (-1), 1) := by decide +kernel
theorem dX11_rich_2 : decode cX11_rich 2 = .ok (.if_icmp .eq 16, 3) := by decide +kernel
theorem dX11_rich_5 : decode cX11_rich 5 = .ok (.aload_n 0, 1) := by decide +kernel
theorem dX11_rich_6 : decode cX11_rich 6 = .ok (.getfield 15, 3) := by decide +kernel
theorem dX11_rich_9 : decode cX11_rich 9 = .ok (.iload_n 1, 1) := by decide +kernel
theorem dX11_rich_10 : decode cX11_rich 10 = .ok (.invokevirtual 236, 3) := by decide +kernel
theorem dX11_rich_13 : decode cX11_rich 13 = .ok (.ifCond .ne 5, 3) := by decide +kernel
theorem dX11_rich_16 : decode cX11_rich 16 = .ok (.iconst (-1), 1) := by decide +kernel
theorem dX11_rich_17 : decode cX11_rich 17 = .ok (.ireturn, 1) := by decide +kernel
theorem dX11_rich_18 : decode cX11_rich 18 = .ok (.iconst 0, 1) := by decide +kernel
theorem dX11_rich_19 : decode cX11_rich 19 = .ok (.istore_n 2, 1) := by decide +kernel
theorem dX11_rich_20 : decode cX11_rich 20 = .ok (.iconst 0, 1) := by decide +kernel
theorem dX11_rich_21 : decode cX11_rich 21 = .ok (.istore_n 3, 1) := by decide +kernel
theorem dX11_rich_22 : decode cX11_rich 22 = .ok (.iload_n 3, 1) := by decide +kernel
theorem dX11_rich_23 : decode cX11_rich 23 = .ok (.aload_n 0, 1) := by decide +kernel
theorem dX11_rich_24 : decode cX11_rich 24 = .ok (.getfield 15, 3) := by decide +kernel
theorem dX11_rich_27 : decode cX11_rich 27 = .ok (.getfield 110, 3) := by decide +kernel
theorem dX11_rich_30 : decode cX11_rich 30 = .ok (.if_icmp .ge 60, 3) := by decide +kernel
theorem dX11_rich_33 : decode cX11_rich 33 = .ok (.aload_n 0, 1) := by decide +kernel
theorem dX11_rich_34 : decode cX11_rich 34 = .ok (.getfield 15, 3) := by decide +kernel
theorem dX11_rich_37 : decode cX11_rich 37 = .ok (.iload_n 3, 1) := by decide +kernel
theorem dX11_rich_38 : decode cX11_rich 38 = .ok (.invokevirtual 148, 3) := by decide +kernel
theorem dX11_rich_41 : decode cX11_rich 41 = .ok (.ifCond .eq 43, 3) := by decide +kernel
theorem dX11_rich_44 : decode cX11_rich 44 = .ok (.aload_n 0, 1) := by decide +kernel
theorem dX11_rich_45 : decode cX11_rich 45 = .ok (.getfield 47, 3) := by decide +kernel
theorem dX11_rich_48 : decode cX11_rich 48 = .ok (.aload_n 0, 1) := by decide +kernel
theorem dX11_rich_49 : decode cX11_rich 49 = .ok (.getfield 15, 3) := by decide +kernel
theorem dX11_rich_52 : decode cX11_rich 52 = .ok (.iload_n 3, 1) := by decide +kernel
theorem dX11_rich_53 : decode cX11_rich 53 = .ok (.invokevirtual 151, 3) := by decide +kernel
theorem dX11_rich_56 : decode cX11_rich 56 = .ok (.aload_n 0, 1) := by decide +kernel
theorem dX11_rich_57 : decode cX11_rich 57 = .ok (.getfield 47, 3) := by decide +kernel
theorem dX11_rich_60 : decode cX11_rich 60 = .ok (.aload_n 0, 1) := by decide +kernel
theorem dX11_rich_61 : decode cX11_rich 61 = .ok (.getfield 15, 3) := by decide +kernel
theorem dX11_rich_64 : decode cX11_rich 64 = .ok (.iload_n 1, 1) := by decide +kernel
theorem dX11_rich_65 : decode cX11_rich 65 = .ok (.invokevirtual 307, 3) := by decide +kernel
theorem dX11_rich_68 : decode cX11_rich 68 = .ok (.putfield 311, 3) := by decide +kernel
theorem dX11_rich_71 : decode cX11_rich 71 = .ok (.iload_n 2, 1) := by decide +kernel
theorem dX11_rich_72 : decode cX11_rich 72 = .ok (.aload_n 0, 1) := by decide +kernel
theorem dX11_rich_73 : decode cX11_rich 73 = .ok (.getfield 47, 3) := by decide +kernel
theorem dX11_rich_76 : decode cX11_rich 76 = .ok (.sipush 263, 3) := by decide +kernel
theorem dX11_rich_79 : decode cX11_rich 79 = .ok (.invokevirtual 155, 3) := by decide +kernel
theorem dX11_rich_82 : decode cX11_rich 82 = .ok (.iadd, 1) := by decide +kernel
theorem dX11_rich_83 : decode cX11_rich 83 = .ok (.istore_n 2, 1) := by decide +kernel
theorem dX11_rich_84 : decode cX11_rich 84 = .ok (.iinc 3 1, 3) := by decide +kernel
theorem dX11_rich_87 : decode cX11_rich 87 = .ok (.goto (-65), 3) := by decide +kernel
theorem dX11_rich_90 : decode cX11_rich 90 = .ok (.iload_n 2, 1) := by decide +kernel
theorem dX11_rich_91 : decode cX11_rich 91 = .ok (.ireturn, 1) := by decide +kernel
theorem dX11_years_0 : decode cX11_years 0 = .ok (.iload_n 1, 1) := by decide +kernel
theorem dX11_years_1 : decode cX11_years 1 = .ok (.ifCond .lt 21, 3) := by decide +kernel
theorem dX11_years_4 : decode cX11_years 4 = .ok (.iload_n 1, 1) := by decide +kernel
theorem dX11_years_5 : decode cX11_years 5 = .ok (.ldc_w 314, 3) := by decide +kernel
theorem dX11_years_8 : decode cX11_years 8 = .ok (.if_icmp .gt 14, 3) := by decide +kernel
theorem dX11_years_11 : decode cX11_years 11 = .ok (.iload_n 2, 1) := by decide +kernel
theorem dX11_years_12 : decode cX11_years 12 = .ok (.iconst 1, 1) := by decide +kernel
theorem dX11_years_13 : decode cX11_years 13 = .ok (.if_icmp .lt 9, 3) := by decide +kernel
theorem dX11_years_16 : decode cX11_years 16 = .ok (.iload_n 2, 1) := by decide +kernel
theorem dX11_years_17 : decode cX11_years 17 = .ok (.bipush 60, 2) := by decide +kernel
theorem dX11_years_19 : decode cX11_years 19 = .ok (.if_icmp .le 9, 3) := by decide +kernel
theorem dX11_years_22 : decode cX11_years 22 = .ok (.aload_n 0, 1) := by decide +kernel
theorem dX11_years_23 : decode cX11_years 23 = .ok (.iconst (-1), 1) := by decide +kernel
theorem dX11_years_24 : decode cX11_years 24 = .ok (.invokevirtual 106, 3) := by decide +kernel
theorem dX11_years_27 : decode cX11_years 27 = .ok (.ireturn, 1) := by decide +kernel
theorem dX11_years_28 : decode cX11_years 28 = .ok (.aload_n 0, 1) := by decide +kernel
theorem dX11_years_29 : decode cX11_years 29 = .ok (.getfield 15, 3) := by decide +kernel
theorem dX11_years_32 : decode cX11_years 32 = .ok (.getfield 110, 3) := by decide +kernel
theorem dX11_years_35 : decode cX11_years 35 = .ok (.ifCond .ne 10, 3) := by decide +kernel
theorem dX11_years_38 : decode cX11_years 38 = .ok (.aload_n 0, 1) := by decide +kernel
theorem dX11_years_39 : decode cX11_years 39 = .ok (.bipush (-3), 2) := by decide +kernel
theorem dX11_years_41 : decode cX11_years 41 = .ok (.invokevirtual 106, 3) := by decide +kernel
theorem dX11_years_44 : decode cX11_years 44 = .ok (.ireturn, 1) := by decide +kernel
theorem dX11_years_45 : decode cX11_years 45 = .ok (.aload_n 0, 1) := by decide +kernel
theorem dX11_years_46 : decode cX11_years 46 = .ok (.getfield 25, 3) := by decide +kernel
theorem dX11_years_49 : decode cX11_years 49 = .ok (.aload_n 0, 1) := by decide +kernel
theorem dX11_years_50 : decode cX11_years 50 = .ok (.getfield 15, 3) := by decide +kernel
theorem dX11_years_53 : decode cX11_years 53 = .ok (.invokevirtual 315, 3) := by decide +kernel
theorem dX11_years_56 : decode cX11_years 56 = .ok (.aload_n 0, 1) := by decide +kernel
theorem dX11_years_57 : decode cX11_years 57 = .ok (.aload_n 0, 1) := by decide +kernel
theorem dX11_years_58 : decode cX11_years 58 = .ok (.getfield 74, 3) := by decide +kernel
theorem dX11_years_61 : decode cX11_years 61 = .ok (.aload_n 0, 1) := by decide +kernel
theorem dX11_years_62 : decode cX11_years 62 = .ok (.getfield 25, 3) := by decide +kernel
theorem dX11_years_65 : decode cX11_years 65 = .ok (.iload_n 1, 1) := by decide +kernel
theorem dX11_years_66 : decode cX11_years 66 = .ok (.iload_n 2, 1) := by decide +kernel
theorem dX11_years_67 : decode cX11_years 67 = .ok (.invokevirtual 318, 3) := by decide +kernel
theorem dX11_years_70 : decode cX11_years 70 = .ok (.invokevirtual 120, 3) := by decide +kernel
theorem dX11_years_73 : decode cX11_years 73 = .ok (.ireturn, 1) := by decide +kernel
theorem dX11_drawn_0 : decode cX11_drawn 0 = .ok (.aload_n 0, 1) := by decide +kernel
theorem dX11_drawn_1 : decode cX11_drawn 1 = .ok (.getfield 25, 3) := by decide +kernel
theorem dX11_drawn_4 : decode cX11_drawn 4 = .ok (.iload_n 1, 1) := by decide +kernel
theorem dX11_drawn_5 : decode cX11_drawn 5 = .ok (.invokevirtual 123, 3) := by decide +kernel
theorem dX11_drawn_8 : decode cX11_drawn 8 = .ok (.ifCond .ne 5, 3) := by decide +kernel
theorem dX11_drawn_11 : decode cX11_drawn 11 = .ok (.iconst (-1), 1) := by decide +kernel
theorem dX11_drawn_12 : decode cX11_drawn 12 = .ok (.ireturn, 1) := by decide +kernel
theorem dX11_drawn_13 : decode cX11_drawn 13 = .ok (.iload_n 2, 1) := by decide +kernel
theorem dX11_drawn_14 : decode cX11_drawn 14 = .ok (.tableswitch 59 0 2 #[26, 36, 49], 26) := by decide +kernel
theorem dX11_drawn_40 : decode cX11_drawn 40 = .ok (.aload_n 0, 1) := by decide +kernel
theorem dX11_drawn_41 : decode cX11_drawn 41 = .ok (.getfield 25, 3) := by decide +kernel
theorem dX11_drawn_44 : decode cX11_drawn 44 = .ok (.getfield 126, 3) := by decide +kernel
theorem dX11_drawn_47 : decode cX11_drawn 47 = .ok (.iload_n 1, 1) := by decide +kernel
theorem dX11_drawn_48 : decode cX11_drawn 48 = .ok (.iaload, 1) := by decide +kernel
theorem dX11_drawn_49 : decode cX11_drawn 49 = .ok (.ireturn, 1) := by decide +kernel
theorem dX11_drawn_50 : decode cX11_drawn 50 = .ok (.aload_n 0, 1) := by decide +kernel
theorem dX11_drawn_51 : decode cX11_drawn 51 = .ok (.getfield 25, 3) := by decide +kernel
theorem dX11_drawn_54 : decode cX11_drawn 54 = .ok (.getfield 129, 3) := by decide +kernel
theorem dX11_drawn_57 : decode cX11_drawn 57 = .ok (.iload_n 1, 1) := by decide +kernel
theorem dX11_drawn_58 : decode cX11_drawn 58 = .ok (.iaload, 1) := by decide +kernel
theorem dX11_drawn_59 : decode cX11_drawn 59 = .ok (.invokestatic 290, 3) := by decide +kernel
theorem dX11_drawn_62 : decode cX11_drawn 62 = .ok (.ireturn, 1) := by decide +kernel
theorem dX11_drawn_63 : decode cX11_drawn 63 = .ok (.aload_n 0, 1) := by decide +kernel
theorem dX11_drawn_64 : decode cX11_drawn 64 = .ok (.getfield 25, 3) := by decide +kernel
theorem dX11_drawn_67 : decode cX11_drawn 67 = .ok (.getfield 135, 3) := by decide +kernel
theorem dX11_drawn_70 : decode cX11_drawn 70 = .ok (.iload_n 1, 1) := by decide +kernel
theorem dX11_drawn_71 : decode cX11_drawn 71 = .ok (.iaload, 1) := by decide +kernel
theorem dX11_drawn_72 : decode cX11_drawn 72 = .ok (.ireturn, 1) := by decide +kernel
theorem dX11_drawn_73 : decode cX11_drawn 73 = .ok (.iconst (-1), 1) := by decide +kernel
theorem dX11_drawn_74 : decode cX11_drawn 74 = .ok (.ireturn, 1) := by decide +kernel
theorem dX11_image_0 : decode cX11_image 0 = .ok (.iload_n 1, 1) := by decide +kernel
theorem dX11_image_1 : decode cX11_image 1 = .ok (.ifCond .lt 8, 3) := by decide +kernel
theorem dX11_image_4 : decode cX11_image 4 = .ok (.iload_n 1, 1) := by decide +kernel
theorem dX11_image_5 : decode cX11_image 5 = .ok (.iconst 2, 1) := by decide +kernel
theorem dX11_image_6 : decode cX11_image 6 = .ok (.if_icmp .lt 9, 3) := by decide +kernel
theorem dX11_image_9 : decode cX11_image 9 = .ok (.aload_n 0, 1) := by decide +kernel
theorem dX11_image_10 : decode cX11_image 10 = .ok (.iconst (-1), 1) := by decide +kernel
theorem dX11_image_11 : decode cX11_image 11 = .ok (.invokevirtual 106, 3) := by decide +kernel
theorem dX11_image_14 : decode cX11_image 14 = .ok (.ireturn, 1) := by decide +kernel
theorem dX11_image_15 : decode cX11_image 15 = .ok (.aload_n 0, 1) := by decide +kernel
theorem dX11_image_16 : decode cX11_image 16 = .ok (.getfield 21, 3) := by decide +kernel
theorem dX11_image_19 : decode cX11_image 19 = .ok (.iload_n 1, 1) := by decide +kernel
theorem dX11_image_20 : decode cX11_image 20 = .ok (.aaload, 1) := by decide +kernel
theorem dX11_image_21 : decode cX11_image 21 = .ok (.ifnonnull 16, 3) := by decide +kernel
theorem dX11_image_24 : decode cX11_image 24 = .ok (.aload_n 0, 1) := by decide +kernel
theorem dX11_image_25 : decode cX11_image 25 = .ok (.getfield 21, 3) := by decide +kernel
theorem dX11_image_28 : decode cX11_image 28 = .ok (.iload_n 1, 1) := by decide +kernel
theorem dX11_image_29 : decode cX11_image 29 = .ok (.new 12, 3) := by decide +kernel
theorem dX11_image_32 : decode cX11_image 32 = .ok (.dup, 1) := by decide +kernel
theorem dX11_image_33 : decode cX11_image 33 = .ok (.invokespecial 14, 3) := by decide +kernel
theorem dX11_image_36 : decode cX11_image 36 = .ok (.aastore, 1) := by decide +kernel
theorem dX11_image_37 : decode cX11_image 37 = .ok (.aload_n 0, 1) := by decide +kernel
theorem dX11_image_38 : decode cX11_image 38 = .ok (.getfield 21, 3) := by decide +kernel
theorem dX11_image_41 : decode cX11_image 41 = .ok (.iload_n 1, 1) := by decide +kernel
theorem dX11_image_42 : decode cX11_image 42 = .ok (.aaload, 1) := by decide +kernel
theorem dX11_image_43 : decode cX11_image 43 = .ok (.aload_n 0, 1) := by decide +kernel
theorem dX11_image_44 : decode cX11_image 44 = .ok (.getfield 15, 3) := by decide +kernel
theorem dX11_image_47 : decode cX11_image 47 = .ok (.invokevirtual 315, 3) := by decide +kernel
theorem dX11_image_50 : decode cX11_image 50 = .ok (.aload_n 0, 1) := by decide +kernel
theorem dX11_image_51 : decode cX11_image 51 = .ok (.iconst 0, 1) := by decide +kernel
theorem dX11_image_52 : decode cX11_image 52 = .ok (.invokevirtual 120, 3) := by decide +kernel
theorem dX11_image_55 : decode cX11_image 55 = .ok (.ireturn, 1) := by decide +kernel
theorem dX11_back_0 : decode cX11_back 0 = .ok (.iload_n 1, 1) := by decide +kernel
theorem dX11_back_1 : decode cX11_back 1 = .ok (.ifCond .lt 8, 3) := by decide +kernel
theorem dX11_back_4 : decode cX11_back 4 = .ok (.iload_n 1, 1) := by decide +kernel
theorem dX11_back_5 : decode cX11_back 5 = .ok (.iconst 2, 1) := by decide +kernel
theorem dX11_back_6 : decode cX11_back 6 = .ok (.if_icmp .lt 9, 3) := by decide +kernel
theorem dX11_back_9 : decode cX11_back 9 = .ok (.aload_n 0, 1) := by decide +kernel
theorem dX11_back_10 : decode cX11_back 10 = .ok (.iconst (-1), 1) := by decide +kernel
theorem dX11_back_11 : decode cX11_back 11 = .ok (.invokevirtual 106, 3) := by decide +kernel
theorem dX11_back_14 : decode cX11_back 14 = .ok (.ireturn, 1) := by decide +kernel
theorem dX11_back_15 : decode cX11_back 15 = .ok (.aload_n 0, 1) := by decide +kernel
theorem dX11_back_16 : decode cX11_back 16 = .ok (.getfield 21, 3) := by decide +kernel
theorem dX11_back_19 : decode cX11_back 19 = .ok (.iload_n 1, 1) := by decide +kernel
theorem dX11_back_20 : decode cX11_back 20 = .ok (.aaload, 1) := by decide +kernel
theorem dX11_back_21 : decode cX11_back 21 = .ok (.ifnonnull 10, 3) := by decide +kernel
theorem dX11_back_24 : decode cX11_back 24 = .ok (.aload_n 0, 1) := by decide +kernel
theorem dX11_back_25 : decode cX11_back 25 = .ok (.bipush (-2), 2) := by decide +kernel
theorem dX11_back_27 : decode cX11_back 27 = .ok (.invokevirtual 106, 3) := by decide +kernel
theorem dX11_back_30 : decode cX11_back 30 = .ok (.ireturn, 1) := by decide +kernel
theorem dX11_back_31 : decode cX11_back 31 = .ok (.aload_n 0, 1) := by decide +kernel
theorem dX11_back_32 : decode cX11_back 32 = .ok (.getfield 15, 3) := by decide +kernel
theorem dX11_back_35 : decode cX11_back 35 = .ok (.aload_n 0, 1) := by decide +kernel
theorem dX11_back_36 : decode cX11_back 36 = .ok (.getfield 21, 3) := by decide +kernel
theorem dX11_back_39 : decode cX11_back 39 = .ok (.iload_n 1, 1) := by decide +kernel
theorem dX11_back_40 : decode cX11_back 40 = .ok (.aaload, 1) := by decide +kernel
theorem dX11_back_41 : decode cX11_back 41 = .ok (.invokevirtual 315, 3) := by decide +kernel
theorem dX11_back_44 : decode cX11_back 44 = .ok (.aload_n 0, 1) := by decide +kernel
theorem dX11_back_45 : decode cX11_back 45 = .ok (.getfield 56, 3) := by decide +kernel
theorem dX11_back_48 : decode cX11_back 48 = .ok (.invokevirtual 113, 3) := by decide +kernel
theorem dX11_back_51 : decode cX11_back 51 = .ok (.aload_n 0, 1) := by decide +kernel
theorem dX11_back_52 : decode cX11_back 52 = .ok (.iconst 0, 1) := by decide +kernel
theorem dX11_back_53 : decode cX11_back 53 = .ok (.invokevirtual 120, 3) := by decide +kernel
theorem dX11_back_56 : decode cX11_back 56 = .ok (.ireturn, 1) := by decide +kernel
theorem dX11_count_0 : decode cX11_count 0 = .ok (.iload_n 1, 1) := by decide +kernel
theorem dX11_count_1 : decode cX11_count 1 = .ok (.tableswitch 221 0 16 #[83, 91, 99, 107, 115, 123, 131, 139, 146, 153, 160, 167, 175, 183, 193, 203, 213], 83) := by decide +kernel
theorem dX11_count_84 : decode cX11_count 84 = .ok (.aload_n 0, 1) := by decide +kernel
theorem dX11_count_85 : decode cX11_count 85 = .ok (.getfield 15, 3) := by decide +kernel
theorem dX11_count_88 : decode cX11_count 88 = .ok (.getfield 110, 3) := by decide +kernel
theorem dX11_count_91 : decode cX11_count 91 = .ok (.ireturn, 1) := by decide +kernel
theorem dX11_count_92 : decode cX11_count 92 = .ok (.aload_n 0, 1) := by decide +kernel
theorem dX11_count_93 : decode cX11_count 93 = .ok (.getfield 15, 3) := by decide +kernel
theorem dX11_count_96 : decode cX11_count 96 = .ok (.invokevirtual 321, 3) := by decide +kernel
theorem dX11_count_99 : decode cX11_count 99 = .ok (.ireturn, 1) := by decide +kernel
theorem dX11_count_100 : decode cX11_count 100 = .ok (.aload_n 0, 1) := by decide +kernel
theorem dX11_count_101 : decode cX11_count 101 = .ok (.getfield 15, 3) := by decide +kernel
theorem dX11_count_104 : decode cX11_count 104 = .ok (.getfield 158, 3) := by decide +kernel
theorem dX11_count_107 : decode cX11_count 107 = .ok (.ireturn, 1) := by decide +kernel
theorem dX11_count_108 : decode cX11_count 108 = .ok (.aload_n 0, 1) := by decide +kernel
theorem dX11_count_109 : decode cX11_count 109 = .ok (.getfield 15, 3) := by decide +kernel
theorem dX11_count_112 : decode cX11_count 112 = .ok (.getfield 262, 3) := by decide +kernel
theorem dX11_count_115 : decode cX11_count 115 = .ok (.ireturn, 1) := by decide +kernel
theorem dX11_count_116 : decode cX11_count 116 = .ok (.aload_n 0, 1) := by decide +kernel
theorem dX11_count_117 : decode cX11_count 117 = .ok (.getfield 15, 3) := by decide +kernel
theorem dX11_count_120 : decode cX11_count 120 = .ok (.getfield 206, 3) := by decide +kernel
theorem dX11_count_123 : decode cX11_count 123 = .ok (.ireturn, 1) := by decide +kernel
theorem dX11_count_124 : decode cX11_count 124 = .ok (.aload_n 0, 1) := by decide +kernel
theorem dX11_count_125 : decode cX11_count 125 = .ok (.getfield 56, 3) := by decide +kernel
theorem dX11_count_128 : decode cX11_count 128 = .ok (.invokevirtual 324, 3) := by decide +kernel
theorem dX11_count_131 : decode cX11_count 131 = .ok (.ireturn, 1) := by decide +kernel
theorem dX11_count_132 : decode cX11_count 132 = .ok (.aload_n 0, 1) := by decide +kernel
theorem dX11_count_133 : decode cX11_count 133 = .ok (.getfield 31, 3) := by decide +kernel
theorem dX11_count_136 : decode cX11_count 136 = .ok (.getfield 194, 3) := by decide +kernel
theorem dX11_count_139 : decode cX11_count 139 = .ok (.ireturn, 1) := by decide +kernel
theorem dX11_count_140 : decode cX11_count 140 = .ok (.aload_n 0, 1) := by decide +kernel
theorem dX11_count_141 : decode cX11_count 141 = .ok (.getfield 85, 3) := by decide +kernel
theorem dX11_count_144 : decode cX11_count 144 = .ok (.iconst 1, 1) := by decide +kernel
theorem dX11_count_145 : decode cX11_count 145 = .ok (.iaload, 1) := by decide +kernel
theorem dX11_count_146 : decode cX11_count 146 = .ok (.ireturn, 1) := by decide +kernel
theorem dX11_count_147 : decode cX11_count 147 = .ok (.aload_n 0, 1) := by decide +kernel
theorem dX11_count_148 : decode cX11_count 148 = .ok (.getfield 85, 3) := by decide +kernel
theorem dX11_count_151 : decode cX11_count 151 = .ok (.iconst 2, 1) := by decide +kernel
theorem dX11_count_152 : decode cX11_count 152 = .ok (.iaload, 1) := by decide +kernel
theorem dX11_count_153 : decode cX11_count 153 = .ok (.ireturn, 1) := by decide +kernel
theorem dX11_count_154 : decode cX11_count 154 = .ok (.aload_n 0, 1) := by decide +kernel
theorem dX11_count_155 : decode cX11_count 155 = .ok (.getfield 85, 3) := by decide +kernel
theorem dX11_count_158 : decode cX11_count 158 = .ok (.iconst 3, 1) := by decide +kernel
theorem dX11_count_159 : decode cX11_count 159 = .ok (.iaload, 1) := by decide +kernel
theorem dX11_count_160 : decode cX11_count 160 = .ok (.ireturn, 1) := by decide +kernel
theorem dX11_count_161 : decode cX11_count 161 = .ok (.aload_n 0, 1) := by decide +kernel
theorem dX11_count_162 : decode cX11_count 162 = .ok (.getfield 85, 3) := by decide +kernel
theorem dX11_count_165 : decode cX11_count 165 = .ok (.iconst 5, 1) := by decide +kernel
theorem dX11_count_166 : decode cX11_count 166 = .ok (.iaload, 1) := by decide +kernel
theorem dX11_count_167 : decode cX11_count 167 = .ok (.ireturn, 1) := by decide +kernel
theorem dX11_count_168 : decode cX11_count 168 = .ok (.aload_n 0, 1) := by decide +kernel
theorem dX11_count_169 : decode cX11_count 169 = .ok (.getfield 85, 3) := by decide +kernel
theorem dX11_count_172 : decode cX11_count 172 = .ok (.bipush 6, 2) := by decide +kernel
theorem dX11_count_174 : decode cX11_count 174 = .ok (.iaload, 1) := by decide +kernel
theorem dX11_count_175 : decode cX11_count 175 = .ok (.ireturn, 1) := by decide +kernel
theorem dX11_count_176 : decode cX11_count 176 = .ok (.aload_n 0, 1) := by decide +kernel
theorem dX11_count_177 : decode cX11_count 177 = .ok (.getfield 15, 3) := by decide +kernel
theorem dX11_count_180 : decode cX11_count 180 = .ok (.getfield 239, 3) := by decide +kernel
theorem dX11_count_183 : decode cX11_count 183 = .ok (.ireturn, 1) := by decide +kernel
theorem dX11_count_184 : decode cX11_count 184 = .ok (.aload_n 0, 1) := by decide +kernel
theorem dX11_count_185 : decode cX11_count 185 = .ok (.getfield 15, 3) := by decide +kernel
theorem dX11_count_188 : decode cX11_count 188 = .ok (.getfield 183, 3) := by decide +kernel
theorem dX11_count_191 : decode cX11_count 191 = .ok (.iconst 0, 1) := by decide +kernel
theorem dX11_count_192 : decode cX11_count 192 = .ok (.iaload, 1) := by decide +kernel
theorem dX11_count_193 : decode cX11_count 193 = .ok (.ireturn, 1) := by decide +kernel
theorem dX11_count_194 : decode cX11_count 194 = .ok (.aload_n 0, 1) := by decide +kernel
theorem dX11_count_195 : decode cX11_count 195 = .ok (.getfield 15, 3) := by decide +kernel
theorem dX11_count_198 : decode cX11_count 198 = .ok (.getfield 183, 3) := by decide +kernel
theorem dX11_count_201 : decode cX11_count 201 = .ok (.iconst 1, 1) := by decide +kernel
theorem dX11_count_202 : decode cX11_count 202 = .ok (.iaload, 1) := by decide +kernel
theorem dX11_count_203 : decode cX11_count 203 = .ok (.ireturn, 1) := by decide +kernel
theorem dX11_count_204 : decode cX11_count 204 = .ok (.aload_n 0, 1) := by decide +kernel
theorem dX11_count_205 : decode cX11_count 205 = .ok (.getfield 15, 3) := by decide +kernel
theorem dX11_count_208 : decode cX11_count 208 = .ok (.getfield 183, 3) := by decide +kernel
theorem dX11_count_211 : decode cX11_count 211 = .ok (.iconst 2, 1) := by decide +kernel
theorem dX11_count_212 : decode cX11_count 212 = .ok (.iaload, 1) := by decide +kernel
theorem dX11_count_213 : decode cX11_count 213 = .ok (.ireturn, 1) := by decide +kernel
theorem dX11_count_214 : decode cX11_count 214 = .ok (.aload_n 0, 1) := by decide +kernel
theorem dX11_count_215 : decode cX11_count 215 = .ok (.getfield 15, 3) := by decide +kernel
theorem dX11_count_218 : decode cX11_count 218 = .ok (.invokevirtual 327, 3) := by decide +kernel
theorem dX11_count_221 : decode cX11_count 221 = .ok (.ireturn, 1) := by decide +kernel
theorem dX11_count_222 : decode cX11_count 222 = .ok (.iconst (-1), 1) := by decide +kernel
theorem dX11_count_223 : decode cX11_count 223 = .ok (.ireturn, 1) := by decide +kernel
theorem dX11_status_0 : decode cX11_status 0 = .ok (.aload_n 0, 1) := by decide +kernel
theorem dX11_status_1 : decode cX11_status 1 = .ok (.getfield 99, 3) := by decide +kernel
theorem dX11_status_4 : decode cX11_status 4 = .ok (.ireturn, 1) := by decide +kernel
theorem dX11_allowed_0 : decode cX11_allowed 0 = .ok (.aload_n 0, 1) := by decide +kernel
theorem dX11_allowed_1 : decode cX11_allowed 1 = .ok (.iconst 0, 1) := by decide +kernel
theorem dX11_allowed_2 : decode cX11_allowed 2 = .ok (.putfield 99, 3) := by decide +kernel
theorem dX11_allowed_5 : decode cX11_allowed 5 = .ok (.iload_n 1, 1) := by decide +kernel
theorem dX11_allowed_6 : decode cX11_allowed 6 = .ok (.ireturn, 1) := by decide +kernel
theorem dX11_refused_0 : decode cX11_refused 0 = .ok (.aload_n 0, 1) := by decide +kernel
theorem dX11_refused_1 : decode cX11_refused 1 = .ok (.iload_n 1, 1) := by decide +kernel
theorem dX11_refused_2 : decode cX11_refused 2 = .ok (.putfield 99, 3) := by decide +kernel
theorem dX11_refused_5 : decode cX11_refused 5 = .ok (.iload_n 1, 1) := by decide +kernel
theorem dX11_refused_6 : decode cX11_refused 6 = .ok (.ifCond .ge 21, 3) := by decide +kernel
theorem dX11_refused_9 : decode cX11_refused 9 = .ok (.iload_n 1, 1) := by decide +kernel
theorem dX11_refused_10 : decode cX11_refused 10 = .ok (.ineg, 1) := by decide +kernel
theorem dX11_refused_11 : decode cX11_refused 11 = .ok (.bipush 7, 2) := by decide +kernel
theorem dX11_refused_13 : decode cX11_refused 13 = .ok (.if_icmp .ge 14, 3) := by decide +kernel
theorem dX11_refused_16 : decode cX11_refused 16 = .ok (.aload_n 0, 1) := by decide +kernel
theorem dX11_refused_17 : decode cX11_refused 17 = .ok (.getfield 85, 3) := by decide +kernel
theorem dX11_refused_20 : decode cX11_refused 20 = .ok (.iload_n 1, 1) := by decide +kernel
theorem dX11_refused_21 : decode cX11_refused 21 = .ok (.ineg, 1) := by decide +kernel
theorem dX11_refused_22 : decode cX11_refused 22 = .ok (.dup2, 1) := by decide +kernel
theorem dX11_refused_23 : decode cX11_refused 23 = .ok (.iaload, 1) := by decide +kernel
theorem dX11_refused_24 : decode cX11_refused 24 = .ok (.iconst 1, 1) := by decide +kernel
theorem dX11_refused_25 : decode cX11_refused 25 = .ok (.iadd, 1) := by decide +kernel
theorem dX11_refused_26 : decode cX11_refused 26 = .ok (.iastore, 1) := by decide +kernel
theorem dX11_refused_27 : decode cX11_refused 27 = .ok (.iload_n 1, 1) := by decide +kernel
theorem dX11_refused_28 : decode cX11_refused 28 = .ok (.ireturn, 1) := by decide +kernel
theorem dX11_told_0 : decode cX11_told 0 = .ok (.iload_n 1, 1) := by decide +kernel
theorem dX11_told_1 : decode cX11_told 1 = .ok (.ifCond .ge 11, 3) := by decide +kernel
theorem dX11_told_4 : decode cX11_told 4 = .ok (.aload_n 0, 1) := by decide +kernel
theorem dX11_told_5 : decode cX11_told 5 = .ok (.iload_n 1, 1) := by decide +kernel
theorem dX11_told_6 : decode cX11_told 6 = .ok (.invokevirtual 106, 3) := by decide +kernel
theorem dX11_told_9 : decode cX11_told 9 = .ok (.goto 8, 3) := by decide +kernel
theorem dX11_told_12 : decode cX11_told 12 = .ok (.aload_n 0, 1) := by decide +kernel
theorem dX11_told_13 : decode cX11_told 13 = .ok (.iload_n 1, 1) := by decide +kernel
theorem dX11_told_14 : decode cX11_told 14 = .ok (.invokevirtual 120, 3) := by decide +kernel
theorem dX11_told_17 : decode cX11_told 17 = .ok (.ireturn, 1) := by decide +kernel
theorem dX11_isLife_0 : decode cX11_isLife 0 = .ok (.iload_n 0, 1) := by decide +kernel
theorem dX11_isLife_1 : decode cX11_isLife 1 = .ok (.ifCond .lt 13, 3) := by decide +kernel
theorem dX11_isLife_4 : decode cX11_isLife 4 = .ok (.iload_n 0, 1) := by decide +kernel
theorem dX11_isLife_5 : decode cX11_isLife 5 = .ok (.bipush 9, 2) := by decide +kernel
theorem dX11_isLife_7 : decode cX11_isLife 7 = .ok (.if_icmp .ge 7, 3) := by decide +kernel
theorem dX11_isLife_10 : decode cX11_isLife 10 = .ok (.iconst 1, 1) := by decide +kernel
theorem dX11_isLife_11 : decode cX11_isLife 11 = .ok (.goto 4, 3) := by decide +kernel
theorem dX11_isLife_14 : decode cX11_isLife 14 = .ok (.iconst 0, 1) := by decide +kernel
theorem dX11_isLife_15 : decode cX11_isLife 15 = .ok (.ireturn, 1) := by decide +kernel
theorem dX11_hasBit_0 : decode cX11_hasBit 0 = .ok (.iload_n 0, 1) := by decide +kernel
theorem dX11_hasBit_1 : decode cX11_hasBit 1 = .ok (.iload_n 1, 1) := by decide +kernel
theorem dX11_hasBit_2 : decode cX11_hasBit 2 = .ok (.ishr, 1) := by decide +kernel
theorem dX11_hasBit_3 : decode cX11_hasBit 3 = .ok (.iconst 1, 1) := by decide +kernel
theorem dX11_hasBit_4 : decode cX11_hasBit 4 = .ok (.iand, 1) := by decide +kernel
theorem dX11_hasBit_5 : decode cX11_hasBit 5 = .ok (.iconst 1, 1) := by decide +kernel
theorem dX11_hasBit_6 : decode cX11_hasBit 6 = .ok (.if_icmp .ne 7, 3) := by decide +kernel
theorem dX11_hasBit_9 : decode cX11_hasBit 9 = .ok (.iconst 1, 1) := by decide +kernel
theorem dX11_hasBit_10 : decode cX11_hasBit 10 = .ok (.goto 4, 3) := by decide +kernel
theorem dX11_hasBit_13 : decode cX11_hasBit 13 = .ok (.iconst 0, 1) := by decide +kernel
theorem dX11_hasBit_14 : decode cX11_hasBit 14 = .ok (.ireturn, 1) := by decide +kernel
theorem dX11_lowestOf_0 : decode cX11_lowestOf 0 = .ok (.iconst 0, 1) := by decide +kernel
theorem dX11_lowestOf_1 : decode cX11_lowestOf 1 = .ok (.istore_n 1, 1) := by decide +kernel
theorem dX11_lowestOf_2 : decode cX11_lowestOf 2 = .ok (.iload_n 1, 1) := by decide +kernel
theorem dX11_lowestOf_3 : decode cX11_lowestOf 3 = .ok (.bipush 9, 2) := by decide +kernel
theorem dX11_lowestOf_5 : decode cX11_lowestOf 5 = .ok (.if_icmp .ge 19, 3) := by decide +kernel
theorem dX11_lowestOf_8 : decode cX11_lowestOf 8 = .ok (.iload_n 0, 1) := by decide +kernel
theorem dX11_lowestOf_9 : decode cX11_lowestOf 9 = .ok (.iload_n 1, 1) := by decide +kernel
theorem dX11_lowestOf_10 : decode cX11_lowestOf 10 = .ok (.invokestatic 330, 3) := by decide +kernel
theorem dX11_lowestOf_13 : decode cX11_lowestOf 13 = .ok (.ifCond .eq 5, 3) := by decide +kernel
theorem dX11_lowestOf_16 : decode cX11_lowestOf 16 = .ok (.iload_n 1, 1) := by decide +kernel
theorem dX11_lowestOf_17 : decode cX11_lowestOf 17 = .ok (.ireturn, 1) := by decide +kernel
theorem dX11_lowestOf_18 : decode cX11_lowestOf 18 = .ok (.iinc 1 1, 3) := by decide +kernel
theorem dX11_lowestOf_21 : decode cX11_lowestOf 21 = .ok (.goto (-19), 3) := by decide +kernel
theorem dX11_lowestOf_24 : decode cX11_lowestOf 24 = .ok (.iconst (-1), 1) := by decide +kernel
theorem dX11_lowestOf_25 : decode cX11_lowestOf 25 = .ok (.ireturn, 1) := by decide +kernel
