theorem dX9_rightCount_9 : decode cX9_rightCount 9 = .ok (.iconst 1, 1) := by decide +kernel
theorem dX9_rightCount_10 : decode cX9_rightCount 10 = .ok (.invokevirtual 74, 3) := by decide +kernel
theorem dX9_rightCount_13 : decode cX9_rightCount 13 = .ok (.ireturn, 1) := by decide +kernel
theorem dX9_rightCount_14 : decode cX9_rightCount 14 = .ok (.aload_n 0, 1) := by decide +kernel
theorem dX9_rightCount_15 : decode cX9_rightCount 15 = .ok (.iconst 0, 1) := by decide +kernel
theorem dX9_rightCount_16 : decode cX9_rightCount 16 = .ok (.putfield 64, 3) := by decide +kernel
theorem dX9_rightCount_19 : decode cX9_rightCount 19 = .ok (.aload_n 0, 1) := by decide +kernel
theorem dX9_rightCount_20 : decode cX9_rightCount 20 = .ok (.iconst 1, 1) := by decide +kernel
theorem dX9_rightCount_21 : decode cX9_rightCount 21 = .ok (.iload_n 1, 1) := by decide +kernel
theorem dX9_rightCount_22 : decode cX9_rightCount 22 = .ok (.iload_n 2, 1) := by decide +kernel
theorem dX9_rightCount_23 : decode cX9_rightCount 23 = .ok (.invokestatic 106, 3) := by decide +kernel
theorem dX9_rightCount_26 : decode cX9_rightCount 26 = .ok (.invokevirtual 82, 3) := by decide +kernel
theorem dX9_rightCount_29 : decode cX9_rightCount 29 = .ok (.ireturn, 1) := by decide +kernel
theorem dX9_leftSize_0 : decode cX9_leftSize 0 = .ok (.aload_n 0, 1) := by decide +kernel
theorem dX9_leftSize_1 : decode cX9_leftSize 1 = .ok (.iconst 0, 1) := by decide +kernel
theorem dX9_leftSize_2 : decode cX9_leftSize 2 = .ok (.putfield 64, 3) := by decide +kernel
theorem dX9_leftSize_5 : decode cX9_leftSize 5 = .ok (.aload_n 0, 1) := by decide +kernel
theorem dX9_leftSize_6 : decode cX9_leftSize 6 = .ok (.getfield 13, 3) := by decide +kernel
theorem dX9_leftSize_9 : decode cX9_leftSize 9 = .ok (.iconst 0, 1) := by decide +kernel
theorem dX9_leftSize_10 : decode cX9_leftSize 10 = .ok (.iaload, 1) := by decide +kernel
theorem dX9_leftSize_11 : decode cX9_leftSize 11 = .ok (.ireturn, 1) := by decide +kernel
theorem dX9_rightSize_0 : decode cX9_rightSize 0 = .ok (.aload_n 0, 1) := by decide +kernel
theorem dX9_rightSize_1 : decode cX9_rightSize 1 = .ok (.iconst 0, 1) := by decide +kernel
theorem dX9_rightSize_2 : decode cX9_rightSize 2 = .ok (.putfield 64, 3) := by decide +kernel
theorem dX9_rightSize_5 : decode cX9_rightSize 5 = .ok (.aload_n 0, 1) := by decide +kernel
theorem dX9_rightSize_6 : decode cX9_rightSize 6 = .ok (.getfield 13, 3) := by decide +kernel
theorem dX9_rightSize_9 : decode cX9_rightSize 9 = .ok (.iconst 1, 1) := by decide +kernel
theorem dX9_rightSize_10 : decode cX9_rightSize 10 = .ok (.iaload, 1) := by decide +kernel
theorem dX9_rightSize_11 : decode cX9_rightSize 11 = .ok (.ireturn, 1) := by decide +kernel
theorem dX9_nameOf_0 : decode cX9_nameOf 0 = .ok (.iload_n 0, 1) := by decide +kernel
theorem dX9_nameOf_1 : decode cX9_nameOf 1 = .ok (.bipush 107, 2) := by decide +kernel
theorem dX9_nameOf_3 : decode cX9_nameOf 3 = .ok (.if_icmp .ne 7, 3) := by decide +kernel
theorem dX9_nameOf_6 : decode cX9_nameOf 6 = .ok (.iconst 0, 1) := by decide +kernel
theorem dX9_nameOf_7 : decode cX9_nameOf 7 = .ok (.goto 44, 3) := by decide +kernel
theorem dX9_nameOf_10 : decode cX9_nameOf 10 = .ok (.iload_n 0, 1) := by decide +kernel
theorem dX9_nameOf_11 : decode cX9_nameOf 11 = .ok (.bipush 103, 2) := by decide +kernel
theorem dX9_nameOf_13 : decode cX9_nameOf 13 = .ok (.if_icmp .ne 7, 3) := by decide +kernel
theorem dX9_nameOf_16 : decode cX9_nameOf 16 = .ok (.iconst 1, 1) := by decide +kernel
theorem dX9_nameOf_17 : decode cX9_nameOf 17 = .ok (.goto 34, 3) := by decide +kernel
theorem dX9_nameOf_20 : decode cX9_nameOf 20 = .ok (.iload_n 0, 1) := by decide +kernel
theorem dX9_nameOf_21 : decode cX9_nameOf 21 = .ok (.bipush 118, 2) := by decide +kernel
theorem dX9_nameOf_23 : decode cX9_nameOf 23 = .ok (.if_icmp .ne 7, 3) := by decide +kernel
theorem dX9_nameOf_26 : decode cX9_nameOf 26 = .ok (.iconst 2, 1) := by decide +kernel
theorem dX9_nameOf_27 : decode cX9_nameOf 27 = .ok (.goto 24, 3) := by decide +kernel
theorem dX9_nameOf_30 : decode cX9_nameOf 30 = .ok (.iload_n 0, 1) := by decide +kernel
theorem dX9_nameOf_31 : decode cX9_nameOf 31 = .ok (.bipush 102, 2) := by decide +kernel
theorem dX9_nameOf_33 : decode cX9_nameOf 33 = .ok (.if_icmp .ne 7, 3) := by decide +kernel
theorem dX9_nameOf_36 : decode cX9_nameOf 36 = .ok (.iconst 3, 1) := by decide +kernel
theorem dX9_nameOf_37 : decode cX9_nameOf 37 = .ok (.goto 14, 3) := by decide +kernel
theorem dX9_nameOf_40 : decode cX9_nameOf 40 = .ok (.iload_n 0, 1) := by decide +kernel
theorem dX9_nameOf_41 : decode cX9_nameOf 41 = .ok (.bipush 112, 2) := by decide +kernel
theorem dX9_nameOf_43 : decode cX9_nameOf 43 = .ok (.if_icmp .ne 7, 3) := by decide +kernel
theorem dX9_nameOf_46 : decode cX9_nameOf 46 = .ok (.iconst 4, 1) := by decide +kernel
theorem dX9_nameOf_47 : decode cX9_nameOf 47 = .ok (.goto 4, 3) := by decide +kernel
theorem dX9_nameOf_50 : decode cX9_nameOf 50 = .ok (.iconst (-1), 1) := by decide +kernel
theorem dX9_nameOf_51 : decode cX9_nameOf 51 = .ok (.ireturn, 1) := by decide +kernel
theorem dX9_compares_0 : decode cX9_compares 0 = .ok (.iload_n 0, 1) := by decide +kernel
theorem dX9_compares_1 : decode cX9_compares 1 = .ok (.sipush 2000, 3) := by decide +kernel
theorem dX9_compares_4 : decode cX9_compares 4 = .ok (.irem, 1) := by decide +kernel
theorem dX9_compares_5 : decode cX9_compares 5 = .ok (.sipush 999, 3) := by decide +kernel
theorem dX9_compares_8 : decode cX9_compares 8 = .ok (.isub, 1) := by decide +kernel
theorem dX9_compares_9 : decode cX9_compares 9 = .ok (.istore 5, 2) := by decide +kernel
theorem dX9_compares_11 : decode cX9_compares 11 = .ok (.iload_n 0, 1) := by decide +kernel
theorem dX9_compares_12 : decode cX9_compares 12 = .ok (.sipush 2000, 3) := by decide +kernel
theorem dX9_compares_15 : decode cX9_compares 15 = .ok (.idiv, 1) := by decide +kernel
theorem dX9_compares_16 : decode cX9_compares 16 = .ok (.iconst 3, 1) := by decide +kernel
theorem dX9_compares_17 : decode cX9_compares 17 = .ok (.irem, 1) := by decide +kernel
theorem dX9_compares_18 : decode cX9_compares 18 = .ok (.istore 6, 2) := by decide +kernel
theorem dX9_compares_20 : decode cX9_compares 20 = .ok (.iload_n 0, 1) := by decide +kernel
theorem dX9_compares_21 : decode cX9_compares 21 = .ok (.sipush 6000, 3) := by decide +kernel
theorem dX9_compares_24 : decode cX9_compares 24 = .ok (.idiv, 1) := by decide +kernel
theorem dX9_compares_25 : decode cX9_compares 25 = .ok (.istore 7, 2) := by decide +kernel
theorem dX9_compares_27 : decode cX9_compares 27 = .ok (.iload 7, 2) := by decide +kernel
theorem dX9_compares_29 : decode cX9_compares 29 = .ok (.ifCond .ne 7, 3) := by decide +kernel
theorem dX9_compares_32 : decode cX9_compares 32 = .ok (.iload_n 1, 1) := by decide +kernel
theorem dX9_compares_33 : decode cX9_compares 33 = .ok (.goto 38, 3) := by decide +kernel
theorem dX9_compares_36 : decode cX9_compares 36 = .ok (.iload 7, 2) := by decide +kernel
theorem dX9_compares_38 : decode cX9_compares 38 = .ok (.iconst 1, 1) := by decide +kernel
theorem dX9_compares_39 : decode cX9_compares 39 = .ok (.if_icmp .ne 7, 3) := by decide +kernel
theorem dX9_compares_42 : decode cX9_compares 42 = .ok (.iload_n 2, 1) := by decide +kernel
theorem dX9_compares_43 : decode cX9_compares 43 = .ok (.goto 28, 3) := by decide +kernel
theorem dX9_compares_46 : decode cX9_compares 46 = .ok (.iload 7, 2) := by decide +kernel
theorem dX9_compares_48 : decode cX9_compares 48 = .ok (.iconst 2, 1) := by decide +kernel
theorem dX9_compares_49 : decode cX9_compares 49 = .ok (.if_icmp .ne 7, 3) := by decide +kernel
theorem dX9_compares_52 : decode cX9_compares 52 = .ok (.iload_n 3, 1) := by decide +kernel
theorem dX9_compares_53 : decode cX9_compares 53 = .ok (.goto 18, 3) := by decide +kernel
theorem dX9_compares_56 : decode cX9_compares 56 = .ok (.iload 7, 2) := by decide +kernel
theorem dX9_compares_58 : decode cX9_compares 58 = .ok (.iconst 3, 1) := by decide +kernel
theorem dX9_compares_59 : decode cX9_compares 59 = .ok (.if_icmp .ne 8, 3) := by decide +kernel
theorem dX9_compares_62 : decode cX9_compares 62 = .ok (.iload 4, 2) := by decide +kernel
theorem dX9_compares_64 : decode cX9_compares 64 = .ok (.goto 7, 3) := by decide +kernel
theorem dX9_compares_67 : decode cX9_compares 67 = .ok (.iload_n 3, 1) := by decide +kernel
theorem dX9_compares_68 : decode cX9_compares 68 = .ok (.iload 4, 2) := by decide +kernel
theorem dX9_compares_70 : decode cX9_compares 70 = .ok (.imul, 1) := by decide +kernel
theorem dX9_compares_71 : decode cX9_compares 71 = .ok (.istore 8, 2) := by decide +kernel
theorem dX9_compares_73 : decode cX9_compares 73 = .ok (.iload 6, 2) := by decide +kernel
theorem dX9_compares_75 : decode cX9_compares 75 = .ok (.ifCond .ne 18, 3) := by decide +kernel
theorem dX9_compares_78 : decode cX9_compares 78 = .ok (.iload 8, 2) := by decide +kernel
theorem dX9_compares_80 : decode cX9_compares 80 = .ok (.iload 5, 2) := by decide +kernel
theorem dX9_compares_82 : decode cX9_compares 82 = .ok (.if_icmp .ge 7, 3) := by decide +kernel
theorem dX9_compares_85 : decode cX9_compares 85 = .ok (.iconst 1, 1) := by decide +kernel
theorem dX9_compares_86 : decode cX9_compares 86 = .ok (.goto 40, 3) := by decide +kernel
theorem dX9_compares_89 : decode cX9_compares 89 = .ok (.iconst 0, 1) := by decide +kernel
theorem dX9_compares_90 : decode cX9_compares 90 = .ok (.goto 36, 3) := by decide +kernel
theorem dX9_compares_93 : decode cX9_compares 93 = .ok (.iload 6, 2) := by decide +kernel
theorem dX9_compares_95 : decode cX9_compares 95 = .ok (.iconst 1, 1) := by decide +kernel
theorem dX9_compares_96 : decode cX9_compares 96 = .ok (.if_icmp .ne 18, 3) := by decide +kernel
theorem dX9_compares_99 : decode cX9_compares 99 = .ok (.iload 8, 2) := by decide +kernel
theorem dX9_compares_101 : decode cX9_compares 101 = .ok (.iload 5, 2) := by decide +kernel
theorem dX9_compares_103 : decode cX9_compares 103 = .ok (.if_icmp .ne 7, 3) := by decide +kernel
theorem dX9_compares_106 : decode cX9_compares 106 = .ok (.iconst 1, 1) := by decide +kernel
theorem dX9_compares_107 : decode cX9_compares 107 = .ok (.goto 19, 3) := by decide +kernel
theorem dX9_compares_110 : decode cX9_compares 110 = .ok (.iconst 0, 1) := by decide +kernel
theorem dX9_compares_111 : decode cX9_compares 111 = .ok (.goto 15, 3) := by decide +kernel
theorem dX9_compares_114 : decode cX9_compares 114 = .ok (.iload 8, 2) := by decide +kernel
theorem dX9_compares_116 : decode cX9_compares 116 = .ok (.iload 5, 2) := by decide +kernel
theorem dX9_compares_118 : decode cX9_compares 118 = .ok (.if_icmp .le 7, 3) := by decide +kernel
theorem dX9_compares_121 : decode cX9_compares 121 = .ok (.iconst 1, 1) := by decide +kernel
theorem dX9_compares_122 : decode cX9_compares 122 = .ok (.goto 4, 3) := by decide +kernel
theorem dX9_compares_125 : decode cX9_compares 125 = .ok (.iconst 0, 1) := by decide +kernel
theorem dX9_compares_126 : decode cX9_compares 126 = .ok (.ireturn, 1) := by decide +kernel
theorem dX9_holds_0 : decode cX9_holds 0 = .ok (.iconst 0, 1) := by decide +kernel
theorem dX9_holds_1 : decode cX9_holds 1 = .ok (.istore 5, 2) := by decide +kernel
theorem dX9_holds_3 : decode cX9_holds 3 = .ok (.iconst 0, 1) := by decide +kernel
theorem dX9_holds_4 : decode cX9_holds 4 = .ok (.istore 6, 2) := by decide +kernel
theorem dX9_holds_6 : decode cX9_holds 6 = .ok (.iload 6, 2) := by decide +kernel
theorem dX9_holds_8 : decode cX9_holds 8 = .ok (.aload_n 0, 1) := by decide +kernel
theorem dX9_holds_9 : decode cX9_holds 9 = .ok (.getfield 122, 3) := by decide +kernel
theorem dX9_holds_12 : decode cX9_holds 12 = .ok (.if_icmp .ge 183, 3) := by decide +kernel
theorem dX9_holds_15 : decode cX9_holds 15 = .ok (.aload_n 0, 1) := by decide +kernel
theorem dX9_holds_16 : decode cX9_holds 16 = .ok (.getfield 16, 3) := by decide +kernel
theorem dX9_holds_19 : decode cX9_holds 19 = .ok (.iload 6, 2) := by decide +kernel
theorem dX9_holds_21 : decode cX9_holds 21 = .ok (.iaload, 1) := by decide +kernel
theorem dX9_holds_22 : decode cX9_holds 22 = .ok (.tableswitch 139 1 3 #[26, 55, 97], 26) := by decide +kernel
theorem dX9_holds_48 : decode cX9_holds 48 = .ok (.aload_n 0, 1) := by decide +kernel
theorem dX9_holds_49 : decode cX9_holds 49 = .ok (.getfield 28, 3) := by decide +kernel
theorem dX9_holds_52 : decode cX9_holds 52 = .ok (.iload 5, 2) := by decide +kernel
theorem dX9_holds_54 : decode cX9_holds 54 = .ok (.iconst 1, 1) := by decide +kernel
theorem dX9_holds_55 : decode cX9_holds 55 = .ok (.isub, 1) := by decide +kernel
theorem dX9_holds_56 : decode cX9_holds 56 = .ok (.aload_n 0, 1) := by decide +kernel
theorem dX9_holds_57 : decode cX9_holds 57 = .ok (.getfield 28, 3) := by decide +kernel
theorem dX9_holds_60 : decode cX9_holds 60 = .ok (.iload 5, 2) := by decide +kernel
theorem dX9_holds_62 : decode cX9_holds 62 = .ok (.iconst 1, 1) := by decide +kernel
theorem dX9_holds_63 : decode cX9_holds 63 = .ok (.isub, 1) := by decide +kernel
theorem dX9_holds_64 : decode cX9_holds 64 = .ok (.baload, 1) := by decide +kernel
theorem dX9_holds_65 : decode cX9_holds 65 = .ok (.ifCond .ne 7, 3) := by decide +kernel
theorem dX9_holds_68 : decode cX9_holds 68 = .ok (.iconst 1, 1) := by decide +kernel
theorem dX9_holds_69 : decode cX9_holds 69 = .ok (.goto 4, 3) := by decide +kernel
theorem dX9_holds_72 : decode cX9_holds 72 = .ok (.iconst 0, 1) := by decide +kernel
theorem dX9_holds_73 : decode cX9_holds 73 = .ok (.bastore, 1) := by decide +kernel
theorem dX9_holds_74 : decode cX9_holds 74 = .ok (.goto 115, 3) := by decide +kernel
theorem dX9_holds_77 : decode cX9_holds 77 = .ok (.iinc 5 (-1), 3) := by decide +kernel
theorem dX9_holds_80 : decode cX9_holds 80 = .ok (.aload_n 0, 1) := by decide +kernel
theorem dX9_holds_81 : decode cX9_holds 81 = .ok (.getfield 28, 3) := by decide +kernel
theorem dX9_holds_84 : decode cX9_holds 84 = .ok (.iload 5, 2) := by decide +kernel
theorem dX9_holds_86 : decode cX9_holds 86 = .ok (.iconst 1, 1) := by decide +kernel
theorem dX9_holds_87 : decode cX9_holds 87 = .ok (.isub, 1) := by decide +kernel
theorem dX9_holds_88 : decode cX9_holds 88 = .ok (.aload_n 0, 1) := by decide +kernel
theorem dX9_holds_89 : decode cX9_holds 89 = .ok (.getfield 28, 3) := by decide +kernel
theorem dX9_holds_92 : decode cX9_holds 92 = .ok (.iload 5, 2) := by decide +kernel
theorem dX9_holds_94 : decode cX9_holds 94 = .ok (.iconst 1, 1) := by decide +kernel
theorem dX9_holds_95 : decode cX9_holds 95 = .ok (.isub, 1) := by decide +kernel
theorem dX9_holds_96 : decode cX9_holds 96 = .ok (.baload, 1) := by decide +kernel
theorem dX9_holds_97 : decode cX9_holds 97 = .ok (.ifCond .eq 17, 3) := by decide +kernel
theorem dX9_holds_100 : decode cX9_holds 100 = .ok (.aload_n 0, 1) := by decide +kernel
theorem dX9_holds_101 : decode cX9_holds 101 = .ok (.getfield 28, 3) := by decide +kernel
theorem dX9_holds_104 : decode cX9_holds 104 = .ok (.iload 5, 2) := by decide +kernel
theorem dX9_holds_106 : decode cX9_holds 106 = .ok (.baload, 1) := by decide +kernel
theorem dX9_holds_107 : decode cX9_holds 107 = .ok (.ifCond .eq 7, 3) := by decide +kernel
theorem dX9_holds_110 : decode cX9_holds 110 = .ok (.iconst 1, 1) := by decide +kernel
theorem dX9_holds_111 : decode cX9_holds 111 = .ok (.goto 4, 3) := by decide +kernel
theorem dX9_holds_114 : decode cX9_holds 114 = .ok (.iconst 0, 1) := by decide +kernel
theorem dX9_holds_115 : decode cX9_holds 115 = .ok (.bastore, 1) := by decide +kernel
theorem dX9_holds_116 : decode cX9_holds 116 = .ok (.goto 73, 3) := by decide +kernel
theorem dX9_holds_119 : decode cX9_holds 119 = .ok (.iinc 5 (-1), 3) := by decide +kernel
theorem dX9_holds_122 : decode cX9_holds 122 = .ok (.aload_n 0, 1) := by decide +kernel
theorem dX9_holds_123 : decode cX9_holds 123 = .ok (.getfield 28, 3) := by decide +kernel
theorem dX9_holds_126 : decode cX9_holds 126 = .ok (.iload 5, 2) := by decide +kernel
theorem dX9_holds_128 : decode cX9_holds 128 = .ok (.iconst 1, 1) := by decide +kernel
theorem dX9_holds_129 : decode cX9_holds 129 = .ok (.isub, 1) := by decide +kernel
theorem dX9_holds_130 : decode cX9_holds 130 = .ok (.aload_n 0, 1) := by decide +kernel
theorem dX9_holds_131 : decode cX9_holds 131 = .ok (.getfield 28, 3) := by decide +kernel
theorem dX9_holds_134 : decode cX9_holds 134 = .ok (.iload 5, 2) := by decide +kernel
theorem dX9_holds_136 : decode cX9_holds 136 = .ok (.iconst 1, 1) := by decide +kernel
theorem dX9_holds_137 : decode cX9_holds 137 = .ok (.isub, 1) := by decide +kernel
theorem dX9_holds_138 : decode cX9_holds 138 = .ok (.baload, 1) := by decide +kernel
theorem dX9_holds_139 : decode cX9_holds 139 = .ok (.ifCond .ne 13, 3) := by decide +kernel
theorem dX9_holds_142 : decode cX9_holds 142 = .ok (.aload_n 0, 1) := by decide +kernel
theorem dX9_holds_143 : decode cX9_holds 143 = .ok (.getfield 28, 3) := by decide +kernel
theorem dX9_holds_146 : decode cX9_holds 146 = .ok (.iload 5, 2) := by decide +kernel
theorem dX9_holds_148 : decode cX9_holds 148 = .ok (.baload, 1) := by decide +kernel
theorem dX9_holds_149 : decode cX9_holds 149 = .ok (.ifCond .eq 7, 3) := by decide +kernel
theorem dX9_holds_152 : decode cX9_holds 152 = .ok (.iconst 1, 1) := by decide +kernel
theorem dX9_holds_153 : decode cX9_holds 153 = .ok (.goto 4, 3) := by decide +kernel
theorem dX9_holds_156 : decode cX9_holds 156 = .ok (.iconst 0, 1) := by decide +kernel
theorem dX9_holds_157 : decode cX9_holds 157 = .ok (.bastore, 1) := by decide +kernel
theorem dX9_holds_158 : decode cX9_holds 158 = .ok (.goto 31, 3) := by decide +kernel
theorem dX9_holds_161 : decode cX9_holds 161 = .ok (.aload_n 0, 1) := by decide +kernel
theorem dX9_holds_162 : decode cX9_holds 162 = .ok (.getfield 28, 3) := by decide +kernel
theorem dX9_holds_165 : decode cX9_holds 165 = .ok (.iload 5, 2) := by decide +kernel
theorem dX9_holds_167 : decode cX9_holds 167 = .ok (.aload_n 0, 1) := by decide +kernel
theorem dX9_holds_168 : decode cX9_holds 168 = .ok (.getfield 16, 3) := by decide +kernel
theorem dX9_holds_171 : decode cX9_holds 171 = .ok (.iload 6, 2) := by decide +kernel
theorem dX9_holds_173 : decode cX9_holds 173 = .ok (.iaload, 1) := by decide +kernel
theorem dX9_holds_174 : decode cX9_holds 174 = .ok (.bipush 10, 2) := by decide +kernel
theorem dX9_holds_176 : decode cX9_holds 176 = .ok (.isub, 1) := by decide +kernel
theorem dX9_holds_177 : decode cX9_holds 177 = .ok (.iload_n 1, 1) := by decide +kernel
theorem dX9_holds_178 : decode cX9_holds 178 = .ok (.iload_n 2, 1) := by decide +kernel
theorem dX9_holds_179 : decode cX9_holds 179 = .ok (.iload_n 3, 1) := by decide +kernel
theorem dX9_holds_180 : decode cX9_holds 180 = .ok (.iload 4, 2) := by decide +kernel
theorem dX9_holds_182 : decode cX9_holds 182 = .ok (.invokestatic 125, 3) := by decide +kernel
theorem dX9_holds_185 : decode cX9_holds 185 = .ok (.bastore, 1) := by decide +kernel
theorem dX9_holds_186 : decode cX9_holds 186 = .ok (.iinc 5 1, 3) := by decide +kernel
theorem dX9_holds_189 : decode cX9_holds 189 = .ok (.iinc 6 1, 3) := by decide +kernel
theorem dX9_holds_192 : decode cX9_holds 192 = .ok (.goto (-186), 3) := by decide +kernel
theorem dX9_holds_195 : decode cX9_holds 195 = .ok (.aload_n 0, 1) := by decide +kernel
theorem dX9_holds_196 : decode cX9_holds 196 = .ok (.getfield 122, 3) := by decide +kernel
theorem dX9_holds_199 : decode cX9_holds 199 = .ok (.ifCond .eq 12, 3) := by decide +kernel
theorem dX9_holds_202 : decode cX9_holds 202 = .ok (.aload_n 0, 1) := by decide +kernel
theorem dX9_holds_203 : decode cX9_holds 203 = .ok (.getfield 28, 3) := by decide +kernel
theorem dX9_holds_206 : decode cX9_holds 206 = .ok (.iconst 0, 1) := by decide +kernel
theorem dX9_holds_207 : decode cX9_holds 207 = .ok (.baload, 1) := by decide +kernel
theorem dX9_holds_208 : decode cX9_holds 208 = .ok (.ifCond .eq 7, 3) := by decide +kernel
theorem dX9_holds_211 : decode cX9_holds 211 = .ok (.iconst 1, 1) := by decide +kernel
theorem dX9_holds_212 : decode cX9_holds 212 = .ok (.goto 4, 3) := by decide +kernel
theorem dX9_holds_215 : decode cX9_holds 215 = .ok (.iconst 0, 1) := by decide +kernel
theorem dX9_holds_216 : decode cX9_holds 216 = .ok (.ireturn, 1) := by decide +kernel
theorem dX9_doMatch_0 : decode cX9_doMatch 0 = .ok (.iload_n 1, 1) := by decide +kernel
theorem dX9_doMatch_1 : decode cX9_doMatch 1 = .ok (.sipush 199, 3) := by decide +kernel
theorem dX9_doMatch_4 : decode cX9_doMatch 4 = .ok (.idiv, 1) := by decide +kernel
theorem dX9_doMatch_5 : decode cX9_doMatch 5 = .ok (.bipush 6, 2) := by decide +kernel
theorem dX9_doMatch_7 : decode cX9_doMatch 7 = .ok (.idiv, 1) := by decide +kernel
theorem dX9_doMatch_8 : decode cX9_doMatch 8 = .ok (.istore_n 3, 1) := by decide +kernel
theorem dX9_doMatch_9 : decode cX9_doMatch 9 = .ok (.iload_n 3, 1) := by decide +kernel
theorem dX9_doMatch_10 : decode cX9_doMatch 10 = .ok (.iload_n 2, 1) := by decide +kernel
theorem dX9_doMatch_11 : decode cX9_doMatch 11 = .ok (.bipush 19, 2) := by decide +kernel
theorem dX9_doMatch_13 : decode cX9_doMatch 13 = .ok (.idiv, 1) := by decide +kernel
theorem dX9_doMatch_14 : decode cX9_doMatch 14 = .ok (.if_icmp .ne 38, 3) := by decide +kernel
theorem dX9_doMatch_17 : decode cX9_doMatch 17 = .ok (.aload_n 0, 1) := by decide +kernel
theorem dX9_doMatch_18 : decode cX9_doMatch 18 = .ok (.iload_n 3, 1) := by decide +kernel
theorem dX9_doMatch_19 : decode cX9_doMatch 19 = .ok (.iload_n 1, 1) := by decide +kernel
theorem dX9_doMatch_20 : decode cX9_doMatch 20 = .ok (.sipush 199, 3) := by decide +kernel
theorem dX9_doMatch_23 : decode cX9_doMatch 23 = .ok (.idiv, 1) := by decide +kernel
theorem dX9_doMatch_24 : decode cX9_doMatch 24 = .ok (.bipush 6, 2) := by decide +kernel
theorem dX9_doMatch_26 : decode cX9_doMatch 26 = .ok (.irem, 1) := by decide +kernel
theorem dX9_doMatch_27 : decode cX9_doMatch 27 = .ok (.iload_n 1, 1) := by decide +kernel
theorem dX9_doMatch_28 : decode cX9_doMatch 28 = .ok (.sipush 199, 3) := by decide +kernel
theorem dX9_doMatch_31 : decode cX9_doMatch 31 = .ok (.irem, 1) := by decide +kernel
theorem dX9_doMatch_32 : decode cX9_doMatch 32 = .ok (.bipush 99, 2) := by decide +kernel
theorem dX9_doMatch_34 : decode cX9_doMatch 34 = .ok (.isub, 1) := by decide +kernel
theorem dX9_doMatch_35 : decode cX9_doMatch 35 = .ok (.iload_n 2, 1) := by decide +kernel
theorem dX9_doMatch_36 : decode cX9_doMatch 36 = .ok (.bipush 19, 2) := by decide +kernel
theorem dX9_doMatch_38 : decode cX9_doMatch 38 = .ok (.irem, 1) := by decide +kernel
theorem dX9_doMatch_39 : decode cX9_doMatch 39 = .ok (.bipush 9, 2) := by decide +kernel
theorem dX9_doMatch_41 : decode cX9_doMatch 41 = .ok (.isub, 1) := by decide +kernel
theorem dX9_doMatch_42 : decode cX9_doMatch 42 = .ok (.invokevirtual 129, 3) := by decide +kernel
theorem dX9_doMatch_45 : decode cX9_doMatch 45 = .ok (.ifCond .eq 7, 3) := by decide +kernel
theorem dX9_doMatch_48 : decode cX9_doMatch 48 = .ok (.iconst 1, 1) := by decide +kernel
theorem dX9_doMatch_49 : decode cX9_doMatch 49 = .ok (.goto 4, 3) := by decide +kernel
theorem dX9_doMatch_52 : decode cX9_doMatch 52 = .ok (.iconst 0, 1) := by decide +kernel
theorem dX9_doMatch_53 : decode cX9_doMatch 53 = .ok (.ireturn, 1) := by decide +kernel
theorem dX9_counts_0 : decode cX9_counts 0 = .ok (.iconst 0, 1) := by decide +kernel
theorem dX9_counts_1 : decode cX9_counts 1 = .ok (.istore 5, 2) := by decide +kernel
theorem dX9_counts_3 : decode cX9_counts 3 = .ok (.iconst 0, 1) := by decide +kernel
theorem dX9_counts_4 : decode cX9_counts 4 = .ok (.istore 6, 2) := by decide +kernel
theorem dX9_counts_6 : decode cX9_counts 6 = .ok (.iload 6, 2) := by decide +kernel
theorem dX9_counts_8 : decode cX9_counts 8 = .ok (.aload_n 0, 1) := by decide +kernel
theorem dX9_counts_9 : decode cX9_counts 9 = .ok (.getfield 13, 3) := by decide +kernel
theorem dX9_counts_12 : decode cX9_counts 12 = .ok (.iload_n 1, 1) := by decide +kernel
theorem dX9_counts_13 : decode cX9_counts 13 = .ok (.iaload, 1) := by decide +kernel
theorem dX9_counts_14 : decode cX9_counts 14 = .ok (.if_icmp .ge 148, 3) := by decide +kernel
theorem dX9_counts_17 : decode cX9_counts 17 = .ok (.aload_n 0, 1) := by decide +kernel
theorem dX9_counts_18 : decode cX9_counts 18 = .ok (.getfield 7, 3) := by decide +kernel
theorem dX9_counts_21 : decode cX9_counts 21 = .ok (.bipush 60, 2) := by decide +kernel
theorem dX9_counts_23 : decode cX9_counts 23 = .ok (.iload_n 1, 1) := by decide +kernel
theorem dX9_counts_24 : decode cX9_counts 24 = .ok (.imul, 1) := by decide +kernel
theorem dX9_counts_25 : decode cX9_counts 25 = .ok (.iload 6, 2) := by decide +kernel
theorem dX9_counts_27 : decode cX9_counts 27 = .ok (.iadd, 1) := by decide +kernel
theorem dX9_counts_28 : decode cX9_counts 28 = .ok (.iaload, 1) := by decide +kernel
theorem dX9_counts_29 : decode cX9_counts 29 = .ok (.istore 7, 2) := by decide +kernel
theorem dX9_counts_31 : decode cX9_counts 31 = .ok (.iload 7, 2) := by decide +kernel
theorem dX9_counts_33 : decode cX9_counts 33 = .ok (.sipush 199, 3) := by decide +kernel
theorem dX9_counts_36 : decode cX9_counts 36 = .ok (.idiv, 1) := by decide +kernel
theorem dX9_counts_37 : decode cX9_counts 37 = .ok (.bipush 6, 2) := by decide +kernel
theorem dX9_counts_39 : decode cX9_counts 39 = .ok (.irem, 1) := by decide +kernel
theorem dX9_counts_40 : decode cX9_counts 40 = .ok (.iload_n 3, 1) := by decide +kernel
theorem dX9_counts_41 : decode cX9_counts 41 = .ok (.if_icmp .ne 115, 3) := by decide +kernel
theorem dX9_counts_44 : decode cX9_counts 44 = .ok (.iload_n 2, 1) := by decide +kernel
theorem dX9_counts_45 : decode cX9_counts 45 = .ok (.ifCond .lt 19, 3) := by decide +kernel
theorem dX9_counts_48 : decode cX9_counts 48 = .ok (.iload 7, 2) := by decide +kernel
theorem dX9_counts_50 : decode cX9_counts 50 = .ok (.sipush 199, 3) := by decide +kernel
theorem dX9_counts_53 : decode cX9_counts 53 = .ok (.idiv, 1) := by decide +kernel
theorem dX9_counts_54 : decode cX9_counts 54 = .ok (.bipush 6, 2) := by decide +kernel
theorem dX9_counts_56 : decode cX9_counts 56 = .ok (.idiv, 1) := by decide +kernel
theorem dX9_counts_57 : decode cX9_counts 57 = .ok (.iload_n 2, 1) := by decide +kernel
theorem dX9_counts_58 : decode cX9_counts 58 = .ok (.if_icmp .eq 6, 3) := by decide +kernel
theorem dX9_counts_61 : decode cX9_counts 61 = .ok (.goto 95, 3) := by decide +kernel
theorem dX9_counts_64 : decode cX9_counts 64 = .ok (.iconst 0, 1) := by decide +kernel
theorem dX9_counts_65 : decode cX9_counts 65 = .ok (.istore 8, 2) := by decide +kernel
theorem dX9_counts_67 : decode cX9_counts 67 = .ok (.iload 8, 2) := by decide +kernel
theorem dX9_counts_69 : decode cX9_counts 69 = .ok (.aload_n 0, 1) := by decide +kernel
theorem dX9_counts_70 : decode cX9_counts 70 = .ok (.getfield 13, 3) := by decide +kernel
theorem dX9_counts_73 : decode cX9_counts 73 = .ok (.iload_n 1, 1) := by decide +kernel
theorem dX9_counts_74 : decode cX9_counts 74 = .ok (.iconst 1, 1) := by decide +kernel
theorem dX9_counts_75 : decode cX9_counts 75 = .ok (.iadd, 1) := by decide +kernel
theorem dX9_counts_76 : decode cX9_counts 76 = .ok (.iaload, 1) := by decide +kernel
theorem dX9_counts_77 : decode cX9_counts 77 = .ok (.if_icmp .ge 79, 3) := by decide +kernel
theorem dX9_counts_80 : decode cX9_counts 80 = .ok (.aload_n 0, 1) := by decide +kernel
theorem dX9_counts_81 : decode cX9_counts 81 = .ok (.getfield 7, 3) := by decide +kernel
theorem dX9_counts_84 : decode cX9_counts 84 = .ok (.bipush 60, 2) := by decide +kernel
theorem dX9_counts_86 : decode cX9_counts 86 = .ok (.iload_n 1, 1) := by decide +kernel
theorem dX9_counts_87 : decode cX9_counts 87 = .ok (.iconst 1, 1) := by decide +kernel
theorem dX9_counts_88 : decode cX9_counts 88 = .ok (.iadd, 1) := by decide +kernel
theorem dX9_counts_89 : decode cX9_counts 89 = .ok (.imul, 1) := by decide +kernel
theorem dX9_counts_90 : decode cX9_counts 90 = .ok (.iload 8, 2) := by decide +kernel
theorem dX9_counts_92 : decode cX9_counts 92 = .ok (.iadd, 1) := by decide +kernel
theorem dX9_counts_93 : decode cX9_counts 93 = .ok (.iaload, 1) := by decide +kernel
theorem dX9_counts_94 : decode cX9_counts 94 = .ok (.istore 9, 2) := by decide +kernel
theorem dX9_counts_96 : decode cX9_counts 96 = .ok (.aload_n 0, 1) := by decide +kernel
theorem dX9_counts_97 : decode cX9_counts 97 = .ok (.iload 7, 2) := by decide +kernel
theorem dX9_counts_99 : decode cX9_counts 99 = .ok (.iload 9, 2) := by decide +kernel
theorem dX9_counts_101 : decode cX9_counts 101 = .ok (.invokevirtual 133, 3) := by decide +kernel
theorem dX9_counts_104 : decode cX9_counts 104 = .ok (.ifCond .ne 6, 3) := by decide +kernel
theorem dX9_counts_107 : decode cX9_counts 107 = .ok (.goto 43, 3) := by decide +kernel
theorem dX9_counts_110 : decode cX9_counts 110 = .ok (.aload_n 0, 1) := by decide +kernel
theorem dX9_counts_111 : decode cX9_counts 111 = .ok (.getfield 32, 3) := by decide +kernel
theorem dX9_counts_114 : decode cX9_counts 114 = .ok (.iload 7, 2) := by decide +kernel
theorem dX9_counts_116 : decode cX9_counts 116 = .ok (.sipush 199, 3) := by decide +kernel
theorem dX9_counts_119 : decode cX9_counts 119 = .ok (.irem, 1) := by decide +kernel
theorem dX9_counts_120 : decode cX9_counts 120 = .ok (.bipush 99, 2) := by decide +kernel
theorem dX9_counts_122 : decode cX9_counts 122 = .ok (.isub, 1) := by decide +kernel
theorem dX9_counts_123 : decode cX9_counts 123 = .ok (.iload 9, 2) := by decide +kernel
theorem dX9_counts_125 : decode cX9_counts 125 = .ok (.bipush 19, 2) := by decide +kernel
theorem dX9_counts_127 : decode cX9_counts 127 = .ok (.irem, 1) := by decide +kernel
theorem dX9_counts_128 : decode cX9_counts 128 = .ok (.bipush 9, 2) := by decide +kernel
theorem dX9_counts_130 : decode cX9_counts 130 = .ok (.isub, 1) := by decide +kernel
theorem dX9_counts_131 : decode cX9_counts 131 = .ok (.imul, 1) := by decide +kernel
theorem dX9_counts_132 : decode cX9_counts 132 = .ok (.sipush 891, 3) := by decide +kernel
theorem dX9_counts_135 : decode cX9_counts 135 = .ok (.iadd, 1) := by decide +kernel
theorem dX9_counts_136 : decode cX9_counts 136 = .ok (.dup2, 1) := by decide +kernel
theorem dX9_counts_137 : decode cX9_counts 137 = .ok (.iaload, 1) := by decide +kernel
theorem dX9_counts_138 : decode cX9_counts 138 = .ok (.iload 4, 2) := by decide +kernel
theorem dX9_counts_140 : decode cX9_counts 140 = .ok (.iadd, 1) := by decide +kernel
theorem dX9_counts_141 : decode cX9_counts 141 = .ok (.iastore, 1) := by decide +kernel
theorem dX9_counts_142 : decode cX9_counts 142 = .ok (.iconst 1, 1) := by decide +kernel
theorem dX9_counts_143 : decode cX9_counts 143 = .ok (.istore 5, 2) := by decide +kernel
theorem dX9_counts_145 : decode cX9_counts 145 = .ok (.aload_n 0, 1) := by decide +kernel
theorem dX9_counts_146 : decode cX9_counts 146 = .ok (.iconst 0, 1) := by decide +kernel
theorem dX9_counts_147 : decode cX9_counts 147 = .ok (.putfield 35, 3) := by decide +kernel
theorem dX9_counts_150 : decode cX9_counts 150 = .ok (.iinc 8 1, 3) := by decide +kernel
theorem dX9_counts_153 : decode cX9_counts 153 = .ok (.goto (-86), 3) := by decide +kernel
theorem dX9_counts_156 : decode cX9_counts 156 = .ok (.iinc 6 1, 3) := by decide +kernel
theorem dX9_counts_159 : decode cX9_counts 159 = .ok (.goto (-153), 3) := by decide +kernel
theorem dX9_counts_162 : decode cX9_counts 162 = .ok (.iload 5, 2) := by decide +kernel
theorem dX9_counts_164 : decode cX9_counts 164 = .ok (.ireturn, 1) := by decide +kernel
theorem dX9_clears_0 : decode cX9_clears 0 = .ok (.iconst 0, 1) := by decide +kernel
theorem dX9_clears_1 : decode cX9_clears 1 = .ok (.istore_n 1, 1) := by decide +kernel
theorem dX9_clears_2 : decode cX9_clears 2 = .ok (.iload_n 1, 1) := by decide +kernel
theorem dX9_clears_3 : decode cX9_clears 3 = .ok (.sipush 1783, 3) := by decide +kernel
theorem dX9_clears_6 : decode cX9_clears 6 = .ok (.if_icmp .ge 23, 3) := by decide +kernel
theorem dX9_clears_9 : decode cX9_clears 9 = .ok (.aload_n 0, 1) := by decide +kernel
theorem dX9_clears_10 : decode cX9_clears 10 = .ok (.getfield 35, 3) := by decide +kernel
theorem dX9_clears_13 : decode cX9_clears 13 = .ok (.ifCond .ne 16, 3) := by decide +kernel
theorem dX9_clears_16 : decode cX9_clears 16 = .ok (.aload_n 0, 1) := by decide +kernel
theorem dX9_clears_17 : decode cX9_clears 17 = .ok (.getfield 32, 3) := by decide +kernel
theorem dX9_clears_20 : decode cX9_clears 20 = .ok (.iload_n 1, 1) := by decide +kernel
theorem dX9_clears_21 : decode cX9_clears 21 = .ok (.iconst 0, 1) := by decide +kernel
theorem dX9_clears_22 : decode cX9_clears 22 = .ok (.iastore, 1) := by decide +kernel
theorem dX9_clears_23 : decode cX9_clears 23 = .ok (.iinc 1 1, 3) := by decide +kernel
theorem dX9_clears_26 : decode cX9_clears 26 = .ok (.goto (-24), 3) := by decide +kernel
theorem dX9_clears_29 : decode cX9_clears 29 = .ok (.aload_n 0, 1) := by decide +kernel
theorem dX9_clears_30 : decode cX9_clears 30 = .ok (.iconst 1, 1) := by decide +kernel
theorem dX9_clears_31 : decode cX9_clears 31 = .ok (.putfield 35, 3) := by decide +kernel
theorem dX9_clears_34 : decode cX9_clears 34 = .ok (.return_, 1) := by decide +kernel
theorem dX9_goesTo_0 : decode cX9_goesTo 0 = .ok (.iconst 0, 1) := by decide +kernel
theorem dX9_goesTo_1 : decode cX9_goesTo 1 = .ok (.istore_n 3, 1) := by decide +kernel
theorem dX9_goesTo_2 : decode cX9_goesTo 2 = .ok (.iconst 0, 1) := by decide +kernel
theorem dX9_goesTo_3 : decode cX9_goesTo 3 = .ok (.istore 4, 2) := by decide +kernel
theorem dX9_goesTo_5 : decode cX9_goesTo 5 = .ok (.iload 4, 2) := by decide +kernel
theorem dX9_goesTo_7 : decode cX9_goesTo 7 = .ok (.bipush 60, 2) := by decide +kernel
theorem dX9_goesTo_9 : decode cX9_goesTo 9 = .ok (.if_icmp .ge 141, 3) := by decide +kernel
theorem dX9_goesTo_12 : decode cX9_goesTo 12 = .ok (.aload_n 0, 1) := by decide +kernel
theorem dX9_goesTo_13 : decode cX9_goesTo 13 = .ok (.invokevirtual 136, 3) := by decide +kernel
theorem dX9_goesTo_16 : decode cX9_goesTo 16 = .ok (.aload_n 0, 1) := by decide +kernel
theorem dX9_goesTo_17 : decode cX9_goesTo 17 = .ok (.iconst 0, 1) := by decide +kernel
theorem dX9_goesTo_18 : decode cX9_goesTo 18 = .ok (.iload 4, 2) := by decide +kernel
theorem dX9_goesTo_20 : decode cX9_goesTo 20 = .ok (.bipush 6, 2) := by decide +kernel
theorem dX9_goesTo_22 : decode cX9_goesTo 22 = .ok (.idiv, 1) := by decide +kernel
theorem dX9_goesTo_23 : decode cX9_goesTo 23 = .ok (.iload 4, 2) := by decide +kernel
theorem dX9_goesTo_25 : decode cX9_goesTo 25 = .ok (.bipush 6, 2) := by decide +kernel
theorem dX9_goesTo_27 : decode cX9_goesTo 27 = .ok (.irem, 1) := by decide +kernel
theorem dX9_goesTo_28 : decode cX9_goesTo 28 = .ok (.iconst 1, 1) := by decide +kernel
theorem dX9_goesTo_29 : decode cX9_goesTo 29 = .ok (.invokevirtual 139, 3) := by decide +kernel
theorem dX9_goesTo_32 : decode cX9_goesTo 32 = .ok (.istore 5, 2) := by decide +kernel
theorem dX9_goesTo_34 : decode cX9_goesTo 34 = .ok (.iload_n 2, 1) := by decide +kernel
theorem dX9_goesTo_35 : decode cX9_goesTo 35 = .ok (.ifCond .eq 25, 3) := by decide +kernel
theorem dX9_goesTo_38 : decode cX9_goesTo 38 = .ok (.aload_n 0, 1) := by decide +kernel
theorem dX9_goesTo_39 : decode cX9_goesTo 39 = .ok (.iconst 4, 1) := by decide +kernel
theorem dX9_goesTo_40 : decode cX9_goesTo 40 = .ok (.iload 4, 2) := by decide +kernel
theorem dX9_goesTo_42 : decode cX9_goesTo 42 = .ok (.bipush 6, 2) := by decide +kernel
theorem dX9_goesTo_44 : decode cX9_goesTo 44 = .ok (.idiv, 1) := by decide +kernel
theorem dX9_goesTo_45 : decode cX9_goesTo 45 = .ok (.iload 4, 2) := by decide +kernel
theorem dX9_goesTo_47 : decode cX9_goesTo 47 = .ok (.bipush 6, 2) := by decide +kernel
theorem dX9_goesTo_49 : decode cX9_goesTo 49 = .ok (.irem, 1) := by decide +kernel
theorem dX9_goesTo_50 : decode cX9_goesTo 50 = .ok (.iconst (-1), 1) := by decide +kernel
theorem dX9_goesTo_51 : decode cX9_goesTo 51 = .ok (.invokevirtual 139, 3) := by decide +kernel
theorem dX9_goesTo_54 : decode cX9_goesTo 54 = .ok (.ifCond .eq 6, 3) := by decide +kernel
theorem dX9_goesTo_57 : decode cX9_goesTo 57 = .ok (.iconst 1, 1) := by decide +kernel
theorem dX9_goesTo_58 : decode cX9_goesTo 58 = .ok (.istore 5, 2) := by decide +kernel
theorem dX9_goesTo_60 : decode cX9_goesTo 60 = .ok (.iconst 0, 1) := by decide +kernel
theorem dX9_goesTo_61 : decode cX9_goesTo 61 = .ok (.istore 6, 2) := by decide +kernel
theorem dX9_goesTo_63 : decode cX9_goesTo 63 = .ok (.iload 5, 2) := by decide +kernel
theorem dX9_goesTo_65 : decode cX9_goesTo 65 = .ok (.ifCond .eq 79, 3) := by decide +kernel
theorem dX9_goesTo_68 : decode cX9_goesTo 68 = .ok (.iload 6, 2) := by decide +kernel
theorem dX9_goesTo_70 : decode cX9_goesTo 70 = .ok (.sipush 1783, 3) := by decide +kernel
theorem dX9_goesTo_73 : decode cX9_goesTo 73 = .ok (.if_icmp .ge 71, 3) := by decide +kernel
theorem dX9_goesTo_76 : decode cX9_goesTo 76 = .ok (.aload_n 0, 1) := by decide +kernel
theorem dX9_goesTo_77 : decode cX9_goesTo 77 = .ok (.getfield 32, 3) := by decide +kernel
theorem dX9_goesTo_80 : decode cX9_goesTo 80 = .ok (.iload 6, 2) := by decide +kernel
theorem dX9_goesTo_82 : decode cX9_goesTo 82 = .ok (.iaload, 1) := by decide +kernel
theorem dX9_goesTo_83 : decode cX9_goesTo 83 = .ok (.ifCond .ne 6, 3) := by decide +kernel
theorem dX9_goesTo_86 : decode cX9_goesTo 86 = .ok (.goto 52, 3) := by decide +kernel
theorem dX9_goesTo_89 : decode cX9_goesTo 89 = .ok (.iload_n 3, 1) := by decide +kernel
theorem dX9_goesTo_90 : decode cX9_goesTo 90 = .ok (.iload_n 1, 1) := by decide +kernel
theorem dX9_goesTo_91 : decode cX9_goesTo 91 = .ok (.if_icmp .ne 44, 3) := by decide +kernel
theorem dX9_goesTo_94 : decode cX9_goesTo 94 = .ok (.aload_n 0, 1) := by decide +kernel
theorem dX9_goesTo_95 : decode cX9_goesTo 95 = .ok (.iload 4, 2) := by decide +kernel
theorem dX9_goesTo_97 : decode cX9_goesTo 97 = .ok (.bipush 6, 2) := by decide +kernel
theorem dX9_goesTo_99 : decode cX9_goesTo 99 = .ok (.idiv, 1) := by decide +kernel
theorem dX9_goesTo_100 : decode cX9_goesTo 100 = .ok (.putfield 141, 3) := by decide +kernel
theorem dX9_goesTo_103 : decode cX9_goesTo 103 = .ok (.aload_n 0, 1) := by decide +kernel
theorem dX9_goesTo_104 : decode cX9_goesTo 104 = .ok (.iload 4, 2) := by decide +kernel
theorem dX9_goesTo_106 : decode cX9_goesTo 106 = .ok (.bipush 6, 2) := by decide +kernel
theorem dX9_goesTo_108 : decode cX9_goesTo 108 = .ok (.irem, 1) := by decide +kernel
theorem dX9_goesTo_109 : decode cX9_goesTo 109 = .ok (.putfield 144, 3) := by decide +kernel
theorem dX9_goesTo_112 : decode cX9_goesTo 112 = .ok (.aload_n 0, 1) := by decide +kernel
theorem dX9_goesTo_113 : decode cX9_goesTo 113 = .ok (.iload 6, 2) := by decide +kernel
theorem dX9_goesTo_115 : decode cX9_goesTo 115 = .ok (.sipush 891, 3) := by decide +kernel
theorem dX9_goesTo_118 : decode cX9_goesTo 118 = .ok (.isub, 1) := by decide +kernel
theorem dX9_goesTo_119 : decode cX9_goesTo 119 = .ok (.putfield 147, 3) := by decide +kernel
theorem dX9_goesTo_122 : decode cX9_goesTo 122 = .ok (.aload_n 0, 1) := by decide +kernel
theorem dX9_goesTo_123 : decode cX9_goesTo 123 = .ok (.aload_n 0, 1) := by decide +kernel
theorem dX9_goesTo_124 : decode cX9_goesTo 124 = .ok (.getfield 32, 3) := by decide +kernel
theorem dX9_goesTo_127 : decode cX9_goesTo 127 = .ok (.iload 6, 2) := by decide +kernel
theorem dX9_goesTo_129 : decode cX9_goesTo 129 = .ok (.iaload, 1) := by decide +kernel
theorem dX9_goesTo_130 : decode cX9_goesTo 130 = .ok (.putfield 150, 3) := by decide +kernel
theorem dX9_goesTo_133 : decode cX9_goesTo 133 = .ok (.iload_n 3, 1) := by decide +kernel
theorem dX9_goesTo_134 : decode cX9_goesTo 134 = .ok (.ireturn, 1) := by decide +kernel
theorem dX9_goesTo_135 : decode cX9_goesTo 135 = .ok (.iinc 3 1, 3) := by decide +kernel
theorem dX9_goesTo_138 : decode cX9_goesTo 138 = .ok (.iinc 6 1, 3) := by decide +kernel
theorem dX9_goesTo_141 : decode cX9_goesTo 141 = .ok (.goto (-78), 3) := by decide +kernel
theorem dX9_goesTo_144 : decode cX9_goesTo 144 = .ok (.iinc 4 1, 3) := by decide +kernel
theorem dX9_goesTo_147 : decode cX9_goesTo 147 = .ok (.goto (-142), 3) := by decide +kernel
theorem dX9_goesTo_150 : decode cX9_goesTo 150 = .ok (.iload_n 3, 1) := by decide +kernel
theorem dX9_goesTo_151 : decode cX9_goesTo 151 = .ok (.ireturn, 1) := by decide +kernel
theorem dX9_rowsOf_0 : decode cX9_rowsOf 0 = .ok (.aload_n 0, 1) := by decide +kernel
theorem dX9_rowsOf_1 : decode cX9_rowsOf 1 = .ok (.iconst (-1), 1) := by decide +kernel
theorem dX9_rowsOf_2 : decode cX9_rowsOf 2 = .ok (.iload_n 1, 1) := by decide +kernel
theorem dX9_rowsOf_3 : decode cX9_rowsOf 3 = .ok (.invokevirtual 153, 3) := by decide +kernel
theorem dX9_rowsOf_6 : decode cX9_rowsOf 6 = .ok (.ireturn, 1) := by decide +kernel
theorem dX9_pairs_0 : decode cX9_pairs 0 = .ok (.iconst 0, 1) := by decide +kernel
theorem dX9_pairs_1 : decode cX9_pairs 1 = .ok (.istore_n 1, 1) := by decide +kernel
theorem dX9_pairs_2 : decode cX9_pairs 2 = .ok (.iconst 0, 1) := by decide +kernel
theorem dX9_pairs_3 : decode cX9_pairs 3 = .ok (.istore_n 2, 1) := by decide +kernel
theorem dX9_pairs_4 : decode cX9_pairs 4 = .ok (.iload_n 2, 1) := by decide +kernel
theorem dX9_pairs_5 : decode cX9_pairs 5 = .ok (.aload_n 0, 1) := by decide +kernel
theorem dX9_pairs_6 : decode cX9_pairs 6 = .ok (.getfield 13, 3) := by decide +kernel
theorem dX9_pairs_9 : decode cX9_pairs 9 = .ok (.iconst 0, 1) := by decide +kernel
theorem dX9_pairs_10 : decode cX9_pairs 10 = .ok (.iaload, 1) := by decide +kernel
theorem dX9_pairs_11 : decode cX9_pairs 11 = .ok (.if_icmp .ge 57, 3) := by decide +kernel
theorem dX9_pairs_14 : decode cX9_pairs 14 = .ok (.iconst 0, 1) := by decide +kernel
theorem dX9_pairs_15 : decode cX9_pairs 15 = .ok (.istore_n 3, 1) := by decide +kernel
theorem dX9_pairs_16 : decode cX9_pairs 16 = .ok (.iload_n 3, 1) := by decide +kernel
theorem dX9_pairs_17 : decode cX9_pairs 17 = .ok (.aload_n 0, 1) := by decide +kernel
theorem dX9_pairs_18 : decode cX9_pairs 18 = .ok (.getfield 13, 3) := by decide +kernel
theorem dX9_pairs_21 : decode cX9_pairs 21 = .ok (.iconst 1, 1) := by decide +kernel
theorem dX9_pairs_22 : decode cX9_pairs 22 = .ok (.iaload, 1) := by decide +kernel
theorem dX9_pairs_23 : decode cX9_pairs 23 = .ok (.if_icmp .ge 39, 3) := by decide +kernel
theorem dX9_pairs_26 : decode cX9_pairs 26 = .ok (.iload_n 1, 1) := by decide +kernel
theorem dX9_pairs_27 : decode cX9_pairs 27 = .ok (.aload_n 0, 1) := by decide +kernel
theorem dX9_pairs_28 : decode cX9_pairs 28 = .ok (.aload_n 0, 1) := by decide +kernel
theorem dX9_pairs_29 : decode cX9_pairs 29 = .ok (.getfield 7, 3) := by decide +kernel
theorem dX9_pairs_32 : decode cX9_pairs 32 = .ok (.iload_n 2, 1) := by decide +kernel
theorem dX9_pairs_33 : decode cX9_pairs 33 = .ok (.iaload, 1) := by decide +kernel
theorem dX9_pairs_34 : decode cX9_pairs 34 = .ok (.aload_n 0, 1) := by decide +kernel
theorem dX9_pairs_35 : decode cX9_pairs 35 = .ok (.getfield 7, 3) := by decide +kernel
theorem dX9_pairs_38 : decode cX9_pairs 38 = .ok (.bipush 60, 2) := by decide +kernel
theorem dX9_pairs_40 : decode cX9_pairs 40 = .ok (.iload_n 3, 1) := by decide +kernel
theorem dX9_pairs_41 : decode cX9_pairs 41 = .ok (.iadd, 1) := by decide +kernel
theorem dX9_pairs_42 : decode cX9_pairs 42 = .ok (.iaload, 1) := by decide +kernel
theorem dX9_pairs_43 : decode cX9_pairs 43 = .ok (.invokevirtual 133, 3) := by decide +kernel
theorem dX9_pairs_46 : decode cX9_pairs 46 = .ok (.ifCond .eq 7, 3) := by decide +kernel
theorem dX9_pairs_49 : decode cX9_pairs 49 = .ok (.iconst 1, 1) := by decide +kernel
theorem dX9_pairs_50 : decode cX9_pairs 50 = .ok (.goto 4, 3) := by decide +kernel
theorem dX9_pairs_53 : decode cX9_pairs 53 = .ok (.iconst 0, 1) := by decide +kernel
theorem dX9_pairs_54 : decode cX9_pairs 54 = .ok (.iadd, 1) := by decide +kernel
theorem dX9_pairs_55 : decode cX9_pairs 55 = .ok (.istore_n 1, 1) := by decide +kernel
theorem dX9_pairs_56 : decode cX9_pairs 56 = .ok (.iinc 3 1, 3) := by decide +kernel
theorem dX9_pairs_59 : decode cX9_pairs 59 = .ok (.goto (-43), 3) := by decide +kernel
theorem dX9_pairs_62 : decode cX9_pairs 62 = .ok (.iinc 2 1, 3) := by decide +kernel
theorem dX9_pairs_65 : decode cX9_pairs 65 = .ok (.goto (-61), 3) := by decide +kernel
theorem dX9_pairs_68 : decode cX9_pairs 68 = .ok (.iload_n 1, 1) := by decide +kernel
theorem dX9_pairs_69 : decode cX9_pairs 69 = .ok (.ireturn, 1) := by decide +kernel
theorem dX9_joinSize_0 : decode cX9_joinSize 0 = .ok (.aload_n 0, 1) := by decide +kernel
theorem dX9_joinSize_1 : decode cX9_joinSize 1 = .ok (.iconst 0, 1) := by decide +kernel
theorem dX9_joinSize_2 : decode cX9_joinSize 2 = .ok (.putfield 64, 3) := by decide +kernel
theorem dX9_joinSize_5 : decode cX9_joinSize 5 = .ok (.aload_n 0, 1) := by decide +kernel
theorem dX9_joinSize_6 : decode cX9_joinSize 6 = .ok (.invokevirtual 157, 3) := by decide +kernel
theorem dX9_joinSize_9 : decode cX9_joinSize 9 = .ok (.ireturn, 1) := by decide +kernel
theorem dX9_joinDistinct_0 : decode cX9_joinDistinct 0 = .ok (.aload_n 0, 1) := by decide +kernel
theorem dX9_joinDistinct_1 : decode cX9_joinDistinct 1 = .ok (.iconst 0, 1) := by decide +kernel
theorem dX9_joinDistinct_2 : decode cX9_joinDistinct 2 = .ok (.putfield 64, 3) := by decide +kernel
theorem dX9_joinDistinct_5 : decode cX9_joinDistinct 5 = .ok (.aload_n 0, 1) := by decide +kernel
theorem dX9_joinDistinct_6 : decode cX9_joinDistinct 6 = .ok (.iconst 0, 1) := by decide +kernel
theorem dX9_joinDistinct_7 : decode cX9_joinDistinct 7 = .ok (.invokevirtual 118, 3) := by decide +kernel
theorem dX9_joinDistinct_10 : decode cX9_joinDistinct 10 = .ok (.ireturn, 1) := by decide +kernel
theorem dX9_joinCount_0 : decode cX9_joinCount 0 = .ok (.aload_n 0, 1) := by decide +kernel
theorem dX9_joinCount_1 : decode cX9_joinCount 1 = .ok (.iconst 0, 1) := by decide +kernel
theorem dX9_joinCount_2 : decode cX9_joinCount 2 = .ok (.putfield 64, 3) := by decide +kernel
theorem dX9_joinCount_5 : decode cX9_joinCount 5 = .ok (.iload_n 1, 1) := by decide +kernel
theorem dX9_joinCount_6 : decode cX9_joinCount 6 = .ok (.iconst 0, 1) := by decide +kernel
theorem dX9_joinCount_7 : decode cX9_joinCount 7 = .ok (.bipush 9, 2) := by decide +kernel
theorem dX9_joinCount_9 : decode cX9_joinCount 9 = .ok (.invokestatic 67, 3) := by decide +kernel
theorem dX9_joinCount_12 : decode cX9_joinCount 12 = .ok (.ifCond .eq 25, 3) := by decide +kernel
theorem dX9_joinCount_15 : decode cX9_joinCount 15 = .ok (.iload_n 2, 1) := by decide +kernel
theorem dX9_joinCount_16 : decode cX9_joinCount 16 = .ok (.iconst 0, 1) := by decide +kernel
theorem dX9_joinCount_17 : decode cX9_joinCount 17 = .ok (.iconst 5, 1) := by decide +kernel
theorem dX9_joinCount_18 : decode cX9_joinCount 18 = .ok (.invokestatic 67, 3) := by decide +kernel
theorem dX9_joinCount_21 : decode cX9_joinCount 21 = .ok (.ifCond .eq 16, 3) := by decide +kernel
theorem dX9_joinCount_24 : decode cX9_joinCount 24 = .ok (.iload_n 3, 1) := by decide +kernel
theorem dX9_joinCount_25 : decode cX9_joinCount 25 = .ok (.sipush (-891), 3) := by decide +kernel
theorem dX9_joinCount_28 : decode cX9_joinCount 28 = .ok (.sipush 891, 3) := by decide +kernel
theorem dX9_joinCount_31 : decode cX9_joinCount 31 = .ok (.invokestatic 67, 3) := by decide +kernel
theorem dX9_joinCount_34 : decode cX9_joinCount 34 = .ok (.ifCond .ne 5, 3) := by decide +kernel
theorem dX9_joinCount_37 : decode cX9_joinCount 37 = .ok (.iconst 0, 1) := by decide +kernel
theorem dX9_joinCount_38 : decode cX9_joinCount 38 = .ok (.ireturn, 1) := by decide +kernel
theorem dX9_joinCount_39 : decode cX9_joinCount 39 = .ok (.aload_n 0, 1) := by decide +kernel
theorem dX9_joinCount_40 : decode cX9_joinCount 40 = .ok (.invokevirtual 136, 3) := by decide +kernel
theorem dX9_joinCount_43 : decode cX9_joinCount 43 = .ok (.aload_n 0, 1) := by decide +kernel
theorem dX9_joinCount_44 : decode cX9_joinCount 44 = .ok (.iconst 0, 1) := by decide +kernel
theorem dX9_joinCount_45 : decode cX9_joinCount 45 = .ok (.iload_n 1, 1) := by decide +kernel
theorem dX9_joinCount_46 : decode cX9_joinCount 46 = .ok (.iload_n 2, 1) := by decide +kernel
theorem dX9_joinCount_47 : decode cX9_joinCount 47 = .ok (.iconst 1, 1) := by decide +kernel
theorem dX9_joinCount_48 : decode cX9_joinCount 48 = .ok (.invokevirtual 139, 3) := by decide +kernel
theorem dX9_joinCount_51 : decode cX9_joinCount 51 = .ok (.pop, 1) := by decide +kernel
theorem dX9_joinCount_52 : decode cX9_joinCount 52 = .ok (.aload_n 0, 1) := by decide +kernel
theorem dX9_joinCount_53 : decode cX9_joinCount 53 = .ok (.getfield 32, 3) := by decide +kernel
theorem dX9_joinCount_56 : decode cX9_joinCount 56 = .ok (.iload_n 3, 1) := by decide +kernel
theorem dX9_joinCount_57 : decode cX9_joinCount 57 = .ok (.sipush 891, 3) := by decide +kernel
theorem dX9_joinCount_60 : decode cX9_joinCount 60 = .ok (.iadd, 1) := by decide +kernel
theorem dX9_joinCount_61 : decode cX9_joinCount 61 = .ok (.iaload, 1) := by decide +kernel
theorem dX9_joinCount_62 : decode cX9_joinCount 62 = .ok (.ireturn, 1) := by decide +kernel
theorem dX9_columnOf_0 : decode cX9_columnOf 0 = .ok (.iload_n 1, 1) := by decide +kernel
theorem dX9_columnOf_1 : decode cX9_columnOf 1 = .ok (.ifCond .lt 21, 3) := by decide +kernel
theorem dX9_columnOf_4 : decode cX9_columnOf 4 = .ok (.iload_n 2, 1) := by decide +kernel
theorem dX9_columnOf_5 : decode cX9_columnOf 5 = .ok (.iconst 0, 1) := by decide +kernel
theorem dX9_columnOf_6 : decode cX9_columnOf 6 = .ok (.iconst 3, 1) := by decide +kernel
theorem dX9_columnOf_7 : decode cX9_columnOf 7 = .ok (.invokestatic 67, 3) := by decide +kernel
theorem dX9_columnOf_10 : decode cX9_columnOf 10 = .ok (.ifCond .eq 12, 3) := by decide +kernel
theorem dX9_columnOf_13 : decode cX9_columnOf 13 = .ok (.iload_n 1, 1) := by decide +kernel
theorem dX9_columnOf_14 : decode cX9_columnOf 14 = .ok (.aload_n 0, 1) := by decide +kernel
theorem dX9_columnOf_15 : decode cX9_columnOf 15 = .ok (.iload_n 3, 1) := by decide +kernel
theorem dX9_columnOf_16 : decode cX9_columnOf 16 = .ok (.invokevirtual 118, 3) := by decide +kernel
theorem dX9_columnOf_19 : decode cX9_columnOf 19 = .ok (.if_icmp .lt 9, 3) := by decide +kernel
theorem dX9_columnOf_22 : decode cX9_columnOf 22 = .ok (.aload_n 0, 1) := by decide +kernel
theorem dX9_columnOf_23 : decode cX9_columnOf 23 = .ok (.iconst 1, 1) := by decide +kernel
theorem dX9_columnOf_24 : decode cX9_columnOf 24 = .ok (.invokevirtual 74, 3) := by decide +kernel
theorem dX9_columnOf_27 : decode cX9_columnOf 27 = .ok (.ireturn, 1) := by decide +kernel
theorem dX9_columnOf_28 : decode cX9_columnOf 28 = .ok (.aload_n 0, 1) := by decide +kernel
theorem dX9_columnOf_29 : decode cX9_columnOf 29 = .ok (.iconst 0, 1) := by decide +kernel
theorem dX9_columnOf_30 : decode cX9_columnOf 30 = .ok (.putfield 64, 3) := by decide +kernel
theorem dX9_columnOf_33 : decode cX9_columnOf 33 = .ok (.aload_n 0, 1) := by decide +kernel
theorem dX9_columnOf_34 : decode cX9_columnOf 34 = .ok (.iload_n 1, 1) := by decide +kernel
theorem dX9_columnOf_35 : decode cX9_columnOf 35 = .ok (.iload_n 3, 1) := by decide +kernel
theorem dX9_columnOf_36 : decode cX9_columnOf 36 = .ok (.invokevirtual 153, 3) := by decide +kernel
theorem dX9_columnOf_39 : decode cX9_columnOf 39 = .ok (.pop, 1) := by decide +kernel
theorem dX9_columnOf_40 : decode cX9_columnOf 40 = .ok (.iload_n 2, 1) := by decide +kernel
theorem dX9_columnOf_41 : decode cX9_columnOf 41 = .ok (.ifCond .ne 10, 3) := by decide +kernel
theorem dX9_columnOf_44 : decode cX9_columnOf 44 = .ok (.aload_n 0, 1) := by decide +kernel
theorem dX9_columnOf_45 : decode cX9_columnOf 45 = .ok (.getfield 141, 3) := by decide +kernel
theorem dX9_columnOf_48 : decode cX9_columnOf 48 = .ok (.goto 31, 3) := by decide +kernel
theorem dX9_columnOf_51 : decode cX9_columnOf 51 = .ok (.iload_n 2, 1) := by decide +kernel
theorem dX9_columnOf_52 : decode cX9_columnOf 52 = .ok (.iconst 1, 1) := by decide +kernel
theorem dX9_columnOf_53 : decode cX9_columnOf 53 = .ok (.if_icmp .ne 10, 3) := by decide +kernel
theorem dX9_columnOf_56 : decode cX9_columnOf 56 = .ok (.aload_n 0, 1) := by decide +kernel
theorem dX9_columnOf_57 : decode cX9_columnOf 57 = .ok (.getfield 144, 3) := by decide +kernel
theorem dX9_columnOf_60 : decode cX9_columnOf 60 = .ok (.goto 19, 3) := by decide +kernel
theorem dX9_columnOf_63 : decode cX9_columnOf 63 = .ok (.iload_n 2, 1) := by decide +kernel
theorem dX9_columnOf_64 : decode cX9_columnOf 64 = .ok (.iconst 2, 1) := by decide +kernel
theorem dX9_columnOf_65 : decode cX9_columnOf 65 = .ok (.if_icmp .ne 10, 3) := by decide +kernel
theorem dX9_columnOf_68 : decode cX9_columnOf 68 = .ok (.aload_n 0, 1) := by decide +kernel
theorem dX9_columnOf_69 : decode cX9_columnOf 69 = .ok (.getfield 147, 3) := by decide +kernel
theorem dX9_columnOf_72 : decode cX9_columnOf 72 = .ok (.goto 7, 3) := by decide +kernel
theorem dX9_columnOf_75 : decode cX9_columnOf 75 = .ok (.aload_n 0, 1) := by decide +kernel
theorem dX9_columnOf_76 : decode cX9_columnOf 76 = .ok (.getfield 150, 3) := by decide +kernel
theorem dX9_columnOf_79 : decode cX9_columnOf 79 = .ok (.ireturn, 1) := by decide +kernel
theorem dX9_joinRow_0 : decode cX9_joinRow 0 = .ok (.aload_n 0, 1) := by decide +kernel
theorem dX9_joinRow_1 : decode cX9_joinRow 1 = .ok (.iload_n 1, 1) := by decide +kernel
theorem dX9_joinRow_2 : decode cX9_joinRow 2 = .ok (.iload_n 2, 1) := by decide +kernel
theorem dX9_joinRow_3 : decode cX9_joinRow 3 = .ok (.iconst 0, 1) := by decide +kernel
theorem dX9_joinRow_4 : decode cX9_joinRow 4 = .ok (.invokevirtual 161, 3) := by decide +kernel
theorem dX9_joinRow_7 : decode cX9_joinRow 7 = .ok (.ireturn, 1) := by decide +kernel
theorem dX9_isDangling_0 : decode cX9_isDangling 0 = .ok (.iconst 0, 1) := by decide +kernel
theorem dX9_isDangling_1 : decode cX9_isDangling 1 = .ok (.istore_n 2, 1) := by decide +kernel
theorem dX9_isDangling_2 : decode cX9_isDangling 2 = .ok (.iload_n 2, 1) := by decide +kernel
theorem dX9_isDangling_3 : decode cX9_isDangling 3 = .ok (.aload_n 0, 1) := by decide +kernel
theorem dX9_isDangling_4 : decode cX9_isDangling 4 = .ok (.getfield 13, 3) := by decide +kernel
theorem dX9_isDangling_7 : decode cX9_isDangling 7 = .ok (.iconst 1, 1) := by decide +kernel
theorem dX9_isDangling_8 : decode cX9_isDangling 8 = .ok (.iaload, 1) := by decide +kernel
theorem dX9_isDangling_9 : decode cX9_isDangling 9 = .ok (.if_icmp .ge 28, 3) := by decide +kernel
theorem dX9_isDangling_12 : decode cX9_isDangling 12 = .ok (.aload_n 0, 1) := by decide +kernel
theorem dX9_isDangling_13 : decode cX9_isDangling 13 = .ok (.iload_n 1, 1) := by decide +kernel
theorem dX9_isDangling_14 : decode cX9_isDangling 14 = .ok (.aload_n 0, 1) := by decide +kernel
theorem dX9_isDangling_15 : decode cX9_isDangling 15 = .ok (.getfield 7, 3) := by decide +kernel
theorem dX9_isDangling_18 : decode cX9_isDangling 18 = .ok (.bipush 60, 2) := by decide +kernel
theorem dX9_isDangling_20 : decode cX9_isDangling 20 = .ok (.iload_n 2, 1) := by decide +kernel
theorem dX9_isDangling_21 : decode cX9_isDangling 21 = .ok (.iadd, 1) := by decide +kernel
theorem dX9_isDangling_22 : decode cX9_isDangling 22 = .ok (.iaload, 1) := by decide +kernel
theorem dX9_isDangling_23 : decode cX9_isDangling 23 = .ok (.invokevirtual 133, 3) := by decide +kernel
theorem dX9_isDangling_26 : decode cX9_isDangling 26 = .ok (.ifCond .eq 5, 3) := by decide +kernel
theorem dX9_isDangling_29 : decode cX9_isDangling 29 = .ok (.iconst 0, 1) := by decide +kernel
theorem dX9_isDangling_30 : decode cX9_isDangling 30 = .ok (.ireturn, 1) := by decide +kernel
theorem dX9_isDangling_31 : decode cX9_isDangling 31 = .ok (.iinc 2 1, 3) := by decide +kernel
theorem dX9_isDangling_34 : decode cX9_isDangling 34 = .ok (.goto (-32), 3) := by decide +kernel
theorem dX9_isDangling_37 : decode cX9_isDangling 37 = .ok (.iconst 1, 1) := by decide +kernel
theorem dX9_isDangling_38 : decode cX9_isDangling 38 = .ok (.ireturn, 1) := by decide +kernel
theorem dX9_danglingAt_0 : decode cX9_danglingAt 0 = .ok (.iload_n 1, 1) := by decide +kernel
theorem dX9_danglingAt_1 : decode cX9_danglingAt 1 = .ok (.istore_n 2, 1) := by decide +kernel
theorem dX9_danglingAt_2 : decode cX9_danglingAt 2 = .ok (.iconst 0, 1) := by decide +kernel
theorem dX9_danglingAt_3 : decode cX9_danglingAt 3 = .ok (.istore_n 3, 1) := by decide +kernel
theorem dX9_danglingAt_4 : decode cX9_danglingAt 4 = .ok (.iload_n 3, 1) := by decide +kernel
theorem dX9_danglingAt_5 : decode cX9_danglingAt 5 = .ok (.aload_n 0, 1) := by decide +kernel
theorem dX9_danglingAt_6 : decode cX9_danglingAt 6 = .ok (.getfield 13, 3) := by decide +kernel
theorem dX9_danglingAt_9 : decode cX9_danglingAt 9 = .ok (.iconst 0, 1) := by decide +kernel
theorem dX9_danglingAt_10 : decode cX9_danglingAt 10 = .ok (.iaload, 1) := by decide +kernel
theorem dX9_danglingAt_11 : decode cX9_danglingAt 11 = .ok (.if_icmp .ge 34, 3) := by decide +kernel
theorem dX9_danglingAt_14 : decode cX9_danglingAt 14 = .ok (.aload_n 0, 1) := by decide +kernel
theorem dX9_danglingAt_15 : decode cX9_danglingAt 15 = .ok (.aload_n 0, 1) := by decide +kernel
theorem dX9_danglingAt_16 : decode cX9_danglingAt 16 = .ok (.getfield 7, 3) := by decide +kernel
theorem dX9_danglingAt_19 : decode cX9_danglingAt 19 = .ok (.iload_n 3, 1) := by decide +kernel
theorem dX9_danglingAt_20 : decode cX9_danglingAt 20 = .ok (.iaload, 1) := by decide +kernel
theorem dX9_danglingAt_21 : decode cX9_danglingAt 21 = .ok (.invokevirtual 165, 3) := by decide +kernel
theorem dX9_danglingAt_24 : decode cX9_danglingAt 24 = .ok (.ifCond .ne 6, 3) := by decide +kernel
theorem dX9_danglingAt_27 : decode cX9_danglingAt 27 = .ok (.goto 12, 3) := by decide +kernel
theorem dX9_danglingAt_30 : decode cX9_danglingAt 30 = .ok (.iload_n 2, 1) := by decide +kernel
theorem dX9_danglingAt_31 : decode cX9_danglingAt 31 = .ok (.ifCond .ne 5, 3) := by decide +kernel
theorem dX9_danglingAt_34 : decode cX9_danglingAt 34 = .ok (.iload_n 3, 1) := by decide +kernel
theorem dX9_danglingAt_35 : decode cX9_danglingAt 35 = .ok (.ireturn, 1) := by decide +kernel
theorem dX9_danglingAt_36 : decode cX9_danglingAt 36 = .ok (.iinc 2 (-1), 3) := by decide +kernel
theorem dX9_danglingAt_39 : decode cX9_danglingAt 39 = .ok (.iinc 3 1, 3) := by decide +kernel
theorem dX9_danglingAt_42 : decode cX9_danglingAt 42 = .ok (.goto (-38), 3) := by decide +kernel
theorem dX9_danglingAt_45 : decode cX9_danglingAt 45 = .ok (.aload_n 0, 1) := by decide +kernel
theorem dX9_danglingAt_46 : decode cX9_danglingAt 46 = .ok (.getfield 13, 3) := by decide +kernel
theorem dX9_danglingAt_49 : decode cX9_danglingAt 49 = .ok (.iconst 0, 1) := by decide +kernel
theorem dX9_danglingAt_50 : decode cX9_danglingAt 50 = .ok (.iaload, 1) := by decide +kernel
theorem dX9_danglingAt_51 : decode cX9_danglingAt 51 = .ok (.ireturn, 1) := by decide +kernel
theorem dX9_danglingCount_0 : decode cX9_danglingCount 0 = .ok (.aload_n 0, 1) := by decide +kernel
theorem dX9_danglingCount_1 : decode cX9_danglingCount 1 = .ok (.iconst 0, 1) := by decide +kernel
theorem dX9_danglingCount_2 : decode cX9_danglingCount 2 = .ok (.putfield 64, 3) := by decide +kernel
theorem dX9_danglingCount_5 : decode cX9_danglingCount 5 = .ok (.iconst 0, 1) := by decide +kernel
theorem dX9_danglingCount_6 : decode cX9_danglingCount 6 = .ok (.istore_n 1, 1) := by decide +kernel
theorem dX9_danglingCount_7 : decode cX9_danglingCount 7 = .ok (.iconst 0, 1) := by decide +kernel
theorem dX9_danglingCount_8 : decode cX9_danglingCount 8 = .ok (.istore_n 2, 1) := by decide +kernel
theorem dX9_danglingCount_9 : decode cX9_danglingCount 9 = .ok (.iload_n 2, 1) := by decide +kernel
theorem dX9_danglingCount_10 : decode cX9_danglingCount 10 = .ok (.aload_n 0, 1) := by decide +kernel
theorem dX9_danglingCount_11 : decode cX9_danglingCount 11 = .ok (.getfield 13, 3) := by decide +kernel
theorem dX9_danglingCount_14 : decode cX9_danglingCount 14 = .ok (.iconst 0, 1) := by decide +kernel
theorem dX9_danglingCount_15 : decode cX9_danglingCount 15 = .ok (.iaload, 1) := by decide +kernel
theorem dX9_danglingCount_16 : decode cX9_danglingCount 16 = .ok (.if_icmp .ge 30, 3) := by decide +kernel
theorem dX9_danglingCount_19 : decode cX9_danglingCount 19 = .ok (.iload_n 1, 1) := by decide +kernel
theorem dX9_danglingCount_20 : decode cX9_danglingCount 20 = .ok (.aload_n 0, 1) := by decide +kernel
theorem dX9_danglingCount_21 : decode cX9_danglingCount 21 = .ok (.aload_n 0, 1) := by decide +kernel
theorem dX9_danglingCount_22 : decode cX9_danglingCount 22 = .ok (.getfield 7, 3) := by decide +kernel
theorem dX9_danglingCount_25 : decode cX9_danglingCount 25 = .ok (.iload_n 2, 1) := by decide +kernel
theorem dX9_danglingCount_26 : decode cX9_danglingCount 26 = .ok (.iaload, 1) := by decide +kernel
theorem dX9_danglingCount_27 : decode cX9_danglingCount 27 = .ok (.invokevirtual 165, 3) := by decide +kernel
theorem dX9_danglingCount_30 : decode cX9_danglingCount 30 = .ok (.ifCond .eq 7, 3) := by decide +kernel
theorem dX9_danglingCount_33 : decode cX9_danglingCount 33 = .ok (.iconst 1, 1) := by decide +kernel
theorem dX9_danglingCount_34 : decode cX9_danglingCount 34 = .ok (.goto 4, 3) := by decide +kernel
theorem dX9_danglingCount_37 : decode cX9_danglingCount 37 = .ok (.iconst 0, 1) := by decide +kernel
theorem dX9_danglingCount_38 : decode cX9_danglingCount 38 = .ok (.iadd, 1) := by decide +kernel
theorem dX9_danglingCount_39 : decode cX9_danglingCount 39 = .ok (.istore_n 1, 1) := by decide +kernel
theorem dX9_danglingCount_40 : decode cX9_danglingCount 40 = .ok (.iinc 2 1, 3) := by decide +kernel
theorem dX9_danglingCount_43 : decode cX9_danglingCount 43 = .ok (.goto (-34), 3) := by decide +kernel
theorem dX9_danglingCount_46 : decode cX9_danglingCount 46 = .ok (.iload_n 1, 1) := by decide +kernel
theorem dX9_danglingCount_47 : decode cX9_danglingCount 47 = .ok (.ireturn, 1) := by decide +kernel
theorem dX9_danglingRow_0 : decode cX9_danglingRow 0 = .ok (.iload_n 1, 1) := by decide +kernel
theorem dX9_danglingRow_1 : decode cX9_danglingRow 1 = .ok (.ifCond .lt 26, 3) := by decide +kernel
theorem dX9_danglingRow_4 : decode cX9_danglingRow 4 = .ok (.iload_n 2, 1) := by decide +kernel
theorem dX9_danglingRow_5 : decode cX9_danglingRow 5 = .ok (.iconst 0, 1) := by decide +kernel
theorem dX9_danglingRow_6 : decode cX9_danglingRow 6 = .ok (.iconst 2, 1) := by decide +kernel
theorem dX9_danglingRow_7 : decode cX9_danglingRow 7 = .ok (.invokestatic 67, 3) := by decide +kernel
theorem dX9_danglingRow_10 : decode cX9_danglingRow 10 = .ok (.ifCond .eq 17, 3) := by decide +kernel
theorem dX9_danglingRow_13 : decode cX9_danglingRow 13 = .ok (.aload_n 0, 1) := by decide +kernel
theorem dX9_danglingRow_14 : decode cX9_danglingRow 14 = .ok (.iload_n 1, 1) := by decide +kernel
theorem dX9_danglingRow_15 : decode cX9_danglingRow 15 = .ok (.invokevirtual 169, 3) := by decide +kernel
theorem dX9_danglingRow_18 : decode cX9_danglingRow 18 = .ok (.aload_n 0, 1) := by decide +kernel
theorem dX9_danglingRow_19 : decode cX9_danglingRow 19 = .ok (.getfield 13, 3) := by decide +kernel
theorem dX9_danglingRow_22 : decode cX9_danglingRow 22 = .ok (.iconst 0, 1) := by decide +kernel
theorem dX9_danglingRow_23 : decode cX9_danglingRow 23 = .ok (.iaload, 1) := by decide +kernel
theorem dX9_danglingRow_24 : decode cX9_danglingRow 24 = .ok (.if_icmp .ne 9, 3) := by decide +kernel
theorem dX9_danglingRow_27 : decode cX9_danglingRow 27 = .ok (.aload_n 0, 1) := by decide +kernel
theorem dX9_danglingRow_28 : decode cX9_danglingRow 28 = .ok (.iconst 1, 1) := by decide +kernel
theorem dX9_danglingRow_29 : decode cX9_danglingRow 29 = .ok (.invokevirtual 74, 3) := by decide +kernel
theorem dX9_danglingRow_32 : decode cX9_danglingRow 32 = .ok (.ireturn, 1) := by decide +kernel
theorem dX9_danglingRow_33 : decode cX9_danglingRow 33 = .ok (.aload_n 0, 1) := by decide +kernel
theorem dX9_danglingRow_34 : decode cX9_danglingRow 34 = .ok (.iconst 0, 1) := by decide +kernel
theorem dX9_danglingRow_35 : decode cX9_danglingRow 35 = .ok (.putfield 64, 3) := by decide +kernel
theorem dX9_danglingRow_38 : decode cX9_danglingRow 38 = .ok (.aload_n 0, 1) := by decide +kernel
theorem dX9_danglingRow_39 : decode cX9_danglingRow 39 = .ok (.getfield 7, 3) := by decide +kernel
theorem dX9_danglingRow_42 : decode cX9_danglingRow 42 = .ok (.aload_n 0, 1) := by decide +kernel
theorem dX9_danglingRow_43 : decode cX9_danglingRow 43 = .ok (.iload_n 1, 1) := by decide +kernel
theorem dX9_danglingRow_44 : decode cX9_danglingRow 44 = .ok (.invokevirtual 169, 3) := by decide +kernel
theorem dX9_danglingRow_47 : decode cX9_danglingRow 47 = .ok (.iaload, 1) := by decide +kernel
theorem dX9_danglingRow_48 : decode cX9_danglingRow 48 = .ok (.istore_n 3, 1) := by decide +kernel
theorem dX9_danglingRow_49 : decode cX9_danglingRow 49 = .ok (.iload_n 2, 1) := by decide +kernel
theorem dX9_danglingRow_50 : decode cX9_danglingRow 50 = .ok (.ifCond .ne 14, 3) := by decide +kernel
theorem dX9_danglingRow_53 : decode cX9_danglingRow 53 = .ok (.iload_n 3, 1) := by decide +kernel
theorem dX9_danglingRow_54 : decode cX9_danglingRow 54 = .ok (.sipush 199, 3) := by decide +kernel
theorem dX9_danglingRow_57 : decode cX9_danglingRow 57 = .ok (.idiv, 1) := by decide +kernel
theorem dX9_danglingRow_58 : decode cX9_danglingRow 58 = .ok (.bipush 6, 2) := by decide +kernel
theorem dX9_danglingRow_60 : decode cX9_danglingRow 60 = .ok (.idiv, 1) := by decide +kernel
theorem dX9_danglingRow_61 : decode cX9_danglingRow 61 = .ok (.goto 27, 3) := by decide +kernel
theorem dX9_danglingRow_64 : decode cX9_danglingRow 64 = .ok (.iload_n 2, 1) := by decide +kernel
theorem dX9_danglingRow_65 : decode cX9_danglingRow 65 = .ok (.iconst 1, 1) := by decide +kernel
theorem dX9_danglingRow_66 : decode cX9_danglingRow 66 = .ok (.if_icmp .ne 14, 3) := by decide +kernel
theorem dX9_danglingRow_69 : decode cX9_danglingRow 69 = .ok (.iload_n 3, 1) := by decide +kernel
theorem dX9_danglingRow_70 : decode cX9_danglingRow 70 = .ok (.sipush 199, 3) := by decide +kernel
theorem dX9_danglingRow_73 : decode cX9_danglingRow 73 = .ok (.idiv, 1) := by decide +kernel
theorem dX9_danglingRow_74 : decode cX9_danglingRow 74 = .ok (.bipush 6, 2) := by decide +kernel
theorem dX9_danglingRow_76 : decode cX9_danglingRow 76 = .ok (.irem, 1) := by decide +kernel
theorem dX9_danglingRow_77 : decode cX9_danglingRow 77 = .ok (.goto 11, 3) := by decide +kernel
theorem dX9_danglingRow_80 : decode cX9_danglingRow 80 = .ok (.iload_n 3, 1) := by decide +kernel
theorem dX9_danglingRow_81 : decode cX9_danglingRow 81 = .ok (.sipush 199, 3) := by decide +kernel
theorem dX9_danglingRow_84 : decode cX9_danglingRow 84 = .ok (.irem, 1) := by decide +kernel
theorem dX9_danglingRow_85 : decode cX9_danglingRow 85 = .ok (.bipush 99, 2) := by decide +kernel
theorem dX9_danglingRow_87 : decode cX9_danglingRow 87 = .ok (.isub, 1) := by decide +kernel
theorem dX9_danglingRow_88 : decode cX9_danglingRow 88 = .ok (.ireturn, 1) := by decide +kernel
theorem dX9_findGroup_0 : decode cX9_findGroup 0 = .ok (.aload_n 0, 1) := by decide +kernel
theorem dX9_findGroup_1 : decode cX9_findGroup 1 = .ok (.invokevirtual 136, 3) := by decide +kernel
theorem dX9_findGroup_4 : decode cX9_findGroup 4 = .ok (.aload_n 0, 1) := by decide +kernel
theorem dX9_findGroup_5 : decode cX9_findGroup 5 = .ok (.iload_n 1, 1) := by decide +kernel
theorem dX9_findGroup_6 : decode cX9_findGroup 6 = .ok (.iconst (-1), 1) := by decide +kernel
theorem dX9_findGroup_7 : decode cX9_findGroup 7 = .ok (.iload_n 2, 1) := by decide +kernel
theorem dX9_findGroup_8 : decode cX9_findGroup 8 = .ok (.iconst 1, 1) := by decide +kernel
theorem dX9_findGroup_9 : decode cX9_findGroup 9 = .ok (.invokevirtual 139, 3) := by decide +kernel
theorem dX9_findGroup_12 : decode cX9_findGroup 12 = .ok (.pop, 1) := by decide +kernel
theorem dX9_findGroup_13 : decode cX9_findGroup 13 = .ok (.aload_n 0, 1) := by decide +kernel
theorem dX9_findGroup_14 : decode cX9_findGroup 14 = .ok (.iconst 0, 1) := by decide +kernel
theorem dX9_findGroup_15 : decode cX9_findGroup 15 = .ok (.putfield 172, 3) := by decide +kernel
theorem dX9_findGroup_18 : decode cX9_findGroup 18 = .ok (.aload_n 0, 1) := by decide +kernel
theorem dX9_findGroup_19 : decode cX9_findGroup 19 = .ok (.iconst 0, 1) := by decide +kernel
theorem dX9_findGroup_20 : decode cX9_findGroup 20 = .ok (.putfield 175, 3) := by decide +kernel
theorem dX9_findGroup_23 : decode cX9_findGroup 23 = .ok (.iconst 0, 1) := by decide +kernel
theorem dX9_findGroup_24 : decode cX9_findGroup 24 = .ok (.istore_n 3, 1) := by decide +kernel
theorem dX9_findGroup_25 : decode cX9_findGroup 25 = .ok (.iload_n 3, 1) := by decide +kernel
theorem dX9_findGroup_26 : decode cX9_findGroup 26 = .ok (.sipush 1783, 3) := by decide +kernel
theorem dX9_findGroup_29 : decode cX9_findGroup 29 = .ok (.if_icmp .ge 45, 3) := by decide +kernel
theorem dX9_findGroup_32 : decode cX9_findGroup 32 = .ok (.aload_n 0, 1) := by decide +kernel
theorem dX9_findGroup_33 : decode cX9_findGroup 33 = .ok (.dup, 1) := by decide +kernel
theorem dX9_findGroup_34 : decode cX9_findGroup 34 = .ok (.getfield 172, 3) := by decide +kernel
theorem dX9_findGroup_37 : decode cX9_findGroup 37 = .ok (.aload_n 0, 1) := by decide +kernel
theorem dX9_findGroup_38 : decode cX9_findGroup 38 = .ok (.getfield 32, 3) := by decide +kernel
theorem dX9_findGroup_41 : decode cX9_findGroup 41 = .ok (.iload_n 3, 1) := by decide +kernel
theorem dX9_findGroup_42 : decode cX9_findGroup 42 = .ok (.iaload, 1) := by decide +kernel
theorem dX9_findGroup_43 : decode cX9_findGroup 43 = .ok (.iadd, 1) := by decide +kernel
theorem dX9_findGroup_44 : decode cX9_findGroup 44 = .ok (.putfield 172, 3) := by decide +kernel
theorem dX9_findGroup_47 : decode cX9_findGroup 47 = .ok (.aload_n 0, 1) := by decide +kernel
theorem dX9_findGroup_48 : decode cX9_findGroup 48 = .ok (.dup, 1) := by decide +kernel
theorem dX9_findGroup_49 : decode cX9_findGroup 49 = .ok (.getfield 175, 3) := by decide +kernel
theorem dX9_findGroup_52 : decode cX9_findGroup 52 = .ok (.aload_n 0, 1) := by decide +kernel
theorem dX9_findGroup_53 : decode cX9_findGroup 53 = .ok (.getfield 32, 3) := by decide +kernel
theorem dX9_findGroup_56 : decode cX9_findGroup 56 = .ok (.iload_n 3, 1) := by decide +kernel
theorem dX9_findGroup_57 : decode cX9_findGroup 57 = .ok (.iaload, 1) := by decide +kernel
theorem dX9_findGroup_58 : decode cX9_findGroup 58 = .ok (.iload_n 3, 1) := by decide +kernel
theorem dX9_findGroup_59 : decode cX9_findGroup 59 = .ok (.sipush 891, 3) := by decide +kernel
theorem dX9_findGroup_62 : decode cX9_findGroup 62 = .ok (.isub, 1) := by decide +kernel
theorem dX9_findGroup_63 : decode cX9_findGroup 63 = .ok (.imul, 1) := by decide +kernel
theorem dX9_findGroup_64 : decode cX9_findGroup 64 = .ok (.iadd, 1) := by decide +kernel
theorem dX9_findGroup_65 : decode cX9_findGroup 65 = .ok (.putfield 175, 3) := by decide +kernel
theorem dX9_findGroup_68 : decode cX9_findGroup 68 = .ok (.iinc 3 1, 3) := by decide +kernel
theorem dX9_findGroup_71 : decode cX9_findGroup 71 = .ok (.goto (-46), 3) := by decide +kernel
theorem dX9_findGroup_74 : decode cX9_findGroup 74 = .ok (.return_, 1) := by decide +kernel
theorem dX9_finds_0 : decode cX9_finds 0 = .ok (.aload_n 0, 1) := by decide +kernel
theorem dX9_finds_1 : decode cX9_finds 1 = .ok (.iload_n 1, 1) := by decide +kernel
theorem dX9_finds_2 : decode cX9_finds 2 = .ok (.iconst 0, 1) := by decide +kernel
theorem dX9_finds_3 : decode cX9_finds 3 = .ok (.iconst 5, 1) := by decide +kernel
theorem dX9_finds_4 : decode cX9_finds 4 = .ok (.invokestatic 67, 3) := by decide +kernel
theorem dX9_finds_7 : decode cX9_finds 7 = .ok (.ifCond .eq 7, 3) := by decide +kernel
theorem dX9_finds_10 : decode cX9_finds 10 = .ok (.iconst 0, 1) := by decide +kernel
theorem dX9_finds_11 : decode cX9_finds 11 = .ok (.goto 4, 3) := by decide +kernel
theorem dX9_finds_14 : decode cX9_finds 14 = .ok (.iconst 1, 1) := by decide +kernel
theorem dX9_finds_15 : decode cX9_finds 15 = .ok (.putfield 64, 3) := by decide +kernel
theorem dX9_finds_18 : decode cX9_finds 18 = .ok (.aload_n 0, 1) := by decide +kernel
theorem dX9_finds_19 : decode cX9_finds 19 = .ok (.getfield 64, 3) := by decide +kernel
theorem dX9_finds_22 : decode cX9_finds 22 = .ok (.ifCond .ne 9, 3) := by decide +kernel
theorem dX9_finds_25 : decode cX9_finds 25 = .ok (.aload_n 0, 1) := by decide +kernel
theorem dX9_finds_26 : decode cX9_finds 26 = .ok (.iconst 0, 1) := by decide +kernel
theorem dX9_finds_27 : decode cX9_finds 27 = .ok (.iload_n 1, 1) := by decide +kernel
theorem dX9_finds_28 : decode cX9_finds 28 = .ok (.invokevirtual 178, 3) := by decide +kernel
theorem dX9_finds_31 : decode cX9_finds 31 = .ok (.aload_n 0, 1) := by decide +kernel
theorem dX9_finds_32 : decode cX9_finds 32 = .ok (.getfield 64, 3) := by decide +kernel
theorem dX9_finds_35 : decode cX9_finds 35 = .ok (.ifCond .ne 7, 3) := by decide +kernel
theorem dX9_finds_38 : decode cX9_finds 38 = .ok (.iconst 1, 1) := by decide +kernel
theorem dX9_finds_39 : decode cX9_finds 39 = .ok (.goto 4, 3) := by decide +kernel
theorem dX9_finds_42 : decode cX9_finds 42 = .ok (.iconst 0, 1) := by decide +kernel
theorem dX9_finds_43 : decode cX9_finds 43 = .ok (.ireturn, 1) := by decide +kernel
theorem dX9_groupSize_0 : decode cX9_groupSize 0 = .ok (.aload_n 0, 1) := by decide +kernel
theorem dX9_groupSize_1 : decode cX9_groupSize 1 = .ok (.iload_n 1, 1) := by decide +kernel
theorem dX9_groupSize_2 : decode cX9_groupSize 2 = .ok (.invokevirtual 181, 3) := by decide +kernel
theorem dX9_groupSize_5 : decode cX9_groupSize 5 = .ok (.ifCond .eq 10, 3) := by decide +kernel
theorem dX9_groupSize_8 : decode cX9_groupSize 8 = .ok (.aload_n 0, 1) := by decide +kernel
theorem dX9_groupSize_9 : decode cX9_groupSize 9 = .ok (.getfield 172, 3) := by decide +kernel
theorem dX9_groupSize_12 : decode cX9_groupSize 12 = .ok (.goto 4, 3) := by decide +kernel
theorem dX9_groupSize_15 : decode cX9_groupSize 15 = .ok (.iconst 0, 1) := by decide +kernel
theorem dX9_groupSize_16 : decode cX9_groupSize 16 = .ok (.ireturn, 1) := by decide +kernel
theorem dX9_groupSum_0 : decode cX9_groupSum 0 = .ok (.aload_n 0, 1) := by decide +kernel
theorem dX9_groupSum_1 : decode cX9_groupSum 1 = .ok (.iload_n 1, 1) := by decide +kernel
theorem dX9_groupSum_2 : decode cX9_groupSum 2 = .ok (.invokevirtual 181, 3) := by decide +kernel
theorem dX9_groupSum_5 : decode cX9_groupSum 5 = .ok (.ifCond .eq 10, 3) := by decide +kernel
theorem dX9_groupSum_8 : decode cX9_groupSum 8 = .ok (.aload_n 0, 1) := by decide +kernel
theorem dX9_groupSum_9 : decode cX9_groupSum 9 = .ok (.getfield 175, 3) := by decide +kernel
theorem dX9_groupSum_12 : decode cX9_groupSum 12 = .ok (.goto 4, 3) := by decide +kernel
theorem dX9_groupSum_15 : decode cX9_groupSum 15 = .ok (.iconst 0, 1) := by decide +kernel
theorem dX9_groupSum_16 : decode cX9_groupSum 16 = .ok (.ireturn, 1) := by decide +kernel
theorem dX9_productAt_0 : decode cX9_productAt 0 = .ok (.iconst 0, 1) := by decide +kernel
theorem dX9_productAt_1 : decode cX9_productAt 1 = .ok (.istore_n 2, 1) := by decide +kernel
theorem dX9_productAt_2 : decode cX9_productAt 2 = .ok (.iload_n 1, 1) := by decide +kernel
theorem dX9_productAt_3 : decode cX9_productAt 3 = .ok (.istore_n 3, 1) := by decide +kernel
theorem dX9_productAt_4 : decode cX9_productAt 4 = .ok (.iload_n 3, 1) := by decide +kernel
theorem dX9_productAt_5 : decode cX9_productAt 5 = .ok (.aload_n 0, 1) := by decide +kernel
theorem dX9_productAt_6 : decode cX9_productAt 6 = .ok (.getfield 32, 3) := by decide +kernel
theorem dX9_productAt_9 : decode cX9_productAt 9 = .ok (.iload_n 2, 1) := by decide +kernel
theorem dX9_productAt_10 : decode cX9_productAt 10 = .ok (.iaload, 1) := by decide +kernel
theorem dX9_productAt_11 : decode cX9_productAt 11 = .ok (.if_icmp .lt 18, 3) := by decide +kernel
theorem dX9_productAt_14 : decode cX9_productAt 14 = .ok (.iload_n 3, 1) := by decide +kernel
theorem dX9_productAt_15 : decode cX9_productAt 15 = .ok (.aload_n 0, 1) := by decide +kernel
theorem dX9_productAt_16 : decode cX9_productAt 16 = .ok (.getfield 32, 3) := by decide +kernel
theorem dX9_productAt_19 : decode cX9_productAt 19 = .ok (.iload_n 2, 1) := by decide +kernel
theorem dX9_productAt_20 : decode cX9_productAt 20 = .ok (.iaload, 1) := by decide +kernel
theorem dX9_productAt_21 : decode cX9_productAt 21 = .ok (.isub, 1) := by decide +kernel
theorem dX9_productAt_22 : decode cX9_productAt 22 = .ok (.istore_n 3, 1) := by decide +kernel
theorem dX9_productAt_23 : decode cX9_productAt 23 = .ok (.iinc 2 1, 3) := by decide +kernel
theorem dX9_productAt_26 : decode cX9_productAt 26 = .ok (.goto (-22), 3) := by decide +kernel
theorem dX9_productAt_29 : decode cX9_productAt 29 = .ok (.iload_n 2, 1) := by decide +kernel
theorem dX9_productAt_30 : decode cX9_productAt 30 = .ok (.sipush 891, 3) := by decide +kernel
theorem dX9_productAt_33 : decode cX9_productAt 33 = .ok (.isub, 1) := by decide +kernel
theorem dX9_productAt_34 : decode cX9_productAt 34 = .ok (.ireturn, 1) := by decide +kernel
theorem dX9_groupMinimum_0 : decode cX9_groupMinimum 0 = .ok (.aload_n 0, 1) := by decide +kernel
theorem dX9_groupMinimum_1 : decode cX9_groupMinimum 1 = .ok (.iload_n 1, 1) := by decide +kernel
theorem dX9_groupMinimum_2 : decode cX9_groupMinimum 2 = .ok (.invokevirtual 181, 3) := by decide +kernel
theorem dX9_groupMinimum_5 : decode cX9_groupMinimum 5 = .ok (.ifCond .ne 5, 3) := by decide +kernel
theorem dX9_groupMinimum_8 : decode cX9_groupMinimum 8 = .ok (.iconst 0, 1) := by decide +kernel
theorem dX9_groupMinimum_9 : decode cX9_groupMinimum 9 = .ok (.ireturn, 1) := by decide +kernel
theorem dX9_groupMinimum_10 : decode cX9_groupMinimum 10 = .ok (.aload_n 0, 1) := by decide +kernel
theorem dX9_groupMinimum_11 : decode cX9_groupMinimum 11 = .ok (.getfield 172, 3) := by decide +kernel
theorem dX9_groupMinimum_14 : decode cX9_groupMinimum 14 = .ok (.ifCond .ne 11, 3) := by decide +kernel
theorem dX9_groupMinimum_17 : decode cX9_groupMinimum 17 = .ok (.aload_n 0, 1) := by decide +kernel
theorem dX9_groupMinimum_18 : decode cX9_groupMinimum 18 = .ok (.iconst 2, 1) := by decide +kernel
theorem dX9_groupMinimum_19 : decode cX9_groupMinimum 19 = .ok (.invokevirtual 74, 3) := by decide +kernel
theorem dX9_groupMinimum_22 : decode cX9_groupMinimum 22 = .ok (.goto 8, 3) := by decide +kernel
theorem dX9_groupMinimum_25 : decode cX9_groupMinimum 25 = .ok (.aload_n 0, 1) := by decide +kernel
theorem dX9_groupMinimum_26 : decode cX9_groupMinimum 26 = .ok (.iconst 0, 1) := by decide +kernel
theorem dX9_groupMinimum_27 : decode cX9_groupMinimum 27 = .ok (.invokevirtual 184, 3) := by decide +kernel
theorem dX9_groupMinimum_30 : decode cX9_groupMinimum 30 = .ok (.ireturn, 1) := by decide +kernel
theorem dX9_groupMaximum_0 : decode cX9_groupMaximum 0 = .ok (.aload_n 0, 1) := by decide +kernel
theorem dX9_groupMaximum_1 : decode cX9_groupMaximum 1 = .ok (.iload_n 1, 1) := by decide +kernel
theorem dX9_groupMaximum_2 : decode cX9_groupMaximum 2 = .ok (.invokevirtual 181, 3) := by decide +kernel
theorem dX9_groupMaximum_5 : decode cX9_groupMaximum 5 = .ok (.ifCond .ne 5, 3) := by decide +kernel
theorem dX9_groupMaximum_8 : decode cX9_groupMaximum 8 = .ok (.iconst 0, 1) := by decide +kernel
theorem dX9_groupMaximum_9 : decode cX9_groupMaximum 9 = .ok (.ireturn, 1) := by decide +kernel
theorem dX9_groupMaximum_10 : decode cX9_groupMaximum 10 = .ok (.aload_n 0, 1) := by decide +kernel
theorem dX9_groupMaximum_11 : decode cX9_groupMaximum 11 = .ok (.getfield 172, 3) := by decide +kernel
theorem dX9_groupMaximum_14 : decode cX9_groupMaximum 14 = .ok (.ifCond .ne 11, 3) := by decide +kernel
theorem dX9_groupMaximum_17 : decode cX9_groupMaximum 17 = .ok (.aload_n 0, 1) := by decide +kernel
theorem dX9_groupMaximum_18 : decode cX9_groupMaximum 18 = .ok (.iconst 2, 1) := by decide +kernel
theorem dX9_groupMaximum_19 : decode cX9_groupMaximum 19 = .ok (.invokevirtual 74, 3) := by decide +kernel
theorem dX9_groupMaximum_22 : decode cX9_groupMaximum 22 = .ok (.goto 13, 3) := by decide +kernel
theorem dX9_groupMaximum_25 : decode cX9_groupMaximum 25 = .ok (.aload_n 0, 1) := by decide +kernel
theorem dX9_groupMaximum_26 : decode cX9_groupMaximum 26 = .ok (.aload_n 0, 1) := by decide +kernel
theorem dX9_groupMaximum_27 : decode cX9_groupMaximum 27 = .ok (.getfield 172, 3) := by decide +kernel
theorem dX9_groupMaximum_30 : decode cX9_groupMaximum 30 = .ok (.iconst 1, 1) := by decide +kernel
theorem dX9_groupMaximum_31 : decode cX9_groupMaximum 31 = .ok (.isub, 1) := by decide +kernel
theorem dX9_groupMaximum_32 : decode cX9_groupMaximum 32 = .ok (.invokevirtual 184, 3) := by decide +kernel
theorem dX9_groupMaximum_35 : decode cX9_groupMaximum 35 = .ok (.ireturn, 1) := by decide +kernel
theorem dX9_groupDistinct_0 : decode cX9_groupDistinct 0 = .ok (.aload_n 0, 1) := by decide +kernel
theorem dX9_groupDistinct_1 : decode cX9_groupDistinct 1 = .ok (.iload_n 1, 1) := by decide +kernel
theorem dX9_groupDistinct_2 : decode cX9_groupDistinct 2 = .ok (.invokevirtual 181, 3) := by decide +kernel
theorem dX9_groupDistinct_5 : decode cX9_groupDistinct 5 = .ok (.ifCond .ne 5, 3) := by decide +kernel
theorem dX9_groupDistinct_8 : decode cX9_groupDistinct 8 = .ok (.iconst 0, 1) := by decide +kernel
theorem dX9_groupDistinct_9 : decode cX9_groupDistinct 9 = .ok (.ireturn, 1) := by decide +kernel
theorem dX9_groupDistinct_10 : decode cX9_groupDistinct 10 = .ok (.iconst 0, 1) := by decide +kernel
theorem dX9_groupDistinct_11 : decode cX9_groupDistinct 11 = .ok (.istore_n 2, 1) := by decide +kernel
theorem dX9_groupDistinct_12 : decode cX9_groupDistinct 12 = .ok (.iconst 0, 1) := by decide +kernel
theorem dX9_groupDistinct_13 : decode cX9_groupDistinct 13 = .ok (.istore_n 3, 1) := by decide +kernel
theorem dX9_groupDistinct_14 : decode cX9_groupDistinct 14 = .ok (.iload_n 3, 1) := by decide +kernel
theorem dX9_groupDistinct_15 : decode cX9_groupDistinct 15 = .ok (.sipush 1783, 3) := by decide +kernel
theorem dX9_groupDistinct_18 : decode cX9_groupDistinct 18 = .ok (.if_icmp .ge 26, 3) := by decide +kernel
theorem dX9_groupDistinct_21 : decode cX9_groupDistinct 21 = .ok (.iload_n 2, 1) := by decide +kernel
theorem dX9_groupDistinct_22 : decode cX9_groupDistinct 22 = .ok (.aload_n 0, 1) := by decide +kernel
theorem dX9_groupDistinct_23 : decode cX9_groupDistinct 23 = .ok (.getfield 32, 3) := by decide +kernel
theorem dX9_groupDistinct_26 : decode cX9_groupDistinct 26 = .ok (.iload_n 3, 1) := by decide +kernel
theorem dX9_groupDistinct_27 : decode cX9_groupDistinct 27 = .ok (.iaload, 1) := by decide +kernel
theorem dX9_groupDistinct_28 : decode cX9_groupDistinct 28 = .ok (.ifCond .le 7, 3) := by decide +kernel
theorem dX9_groupDistinct_31 : decode cX9_groupDistinct 31 = .ok (.iconst 1, 1) := by decide +kernel
theorem dX9_groupDistinct_32 : decode cX9_groupDistinct 32 = .ok (.goto 4, 3) := by decide +kernel
theorem dX9_groupDistinct_35 : decode cX9_groupDistinct 35 = .ok (.iconst 0, 1) := by decide +kernel
theorem dX9_groupDistinct_36 : decode cX9_groupDistinct 36 = .ok (.iadd, 1) := by decide +kernel
theorem dX9_groupDistinct_37 : decode cX9_groupDistinct 37 = .ok (.istore_n 2, 1) := by decide +kernel
theorem dX9_groupDistinct_38 : decode cX9_groupDistinct 38 = .ok (.iinc 3 1, 3) := by decide +kernel
theorem dX9_groupDistinct_41 : decode cX9_groupDistinct 41 = .ok (.goto (-27), 3) := by decide +kernel
theorem dX9_groupDistinct_44 : decode cX9_groupDistinct 44 = .ok (.iload_n 2, 1) := by decide +kernel
theorem dX9_groupDistinct_45 : decode cX9_groupDistinct 45 = .ok (.ireturn, 1) := by decide +kernel
theorem dX9_groupElement_0 : decode cX9_groupElement 0 = .ok (.aload_n 0, 1) := by decide +kernel
theorem dX9_groupElement_1 : decode cX9_groupElement 1 = .ok (.iload_n 1, 1) := by decide +kernel
theorem dX9_groupElement_2 : decode cX9_groupElement 2 = .ok (.invokevirtual 181, 3) := by decide +kernel
theorem dX9_groupElement_5 : decode cX9_groupElement 5 = .ok (.ifCond .ne 5, 3) := by decide +kernel
theorem dX9_groupElement_8 : decode cX9_groupElement 8 = .ok (.iconst 0, 1) := by decide +kernel
theorem dX9_groupElement_9 : decode cX9_groupElement 9 = .ok (.ireturn, 1) := by decide +kernel
theorem dX9_groupElement_10 : decode cX9_groupElement 10 = .ok (.iload_n 2, 1) := by decide +kernel
theorem dX9_groupElement_11 : decode cX9_groupElement 11 = .ok (.iconst 0, 1) := by decide +kernel
theorem dX9_groupElement_12 : decode cX9_groupElement 12 = .ok (.aload_n 0, 1) := by decide +kernel
theorem dX9_groupElement_13 : decode cX9_groupElement 13 = .ok (.getfield 172, 3) := by decide +kernel
theorem dX9_groupElement_16 : decode cX9_groupElement 16 = .ok (.iconst 1, 1) := by decide +kernel
theorem dX9_groupElement_17 : decode cX9_groupElement 17 = .ok (.isub, 1) := by decide +kernel
theorem dX9_groupElement_18 : decode cX9_groupElement 18 = .ok (.invokestatic 67, 3) := by decide +kernel
theorem dX9_groupElement_21 : decode cX9_groupElement 21 = .ok (.ifCond .eq 11, 3) := by decide +kernel
theorem dX9_groupElement_24 : decode cX9_groupElement 24 = .ok (.aload_n 0, 1) := by decide +kernel
theorem dX9_groupElement_25 : decode cX9_groupElement 25 = .ok (.iload_n 2, 1) := by decide +kernel
theorem dX9_groupElement_26 : decode cX9_groupElement 26 = .ok (.invokevirtual 184, 3) := by decide +kernel
theorem dX9_groupElement_29 : decode cX9_groupElement 29 = .ok (.goto 8, 3) := by decide +kernel
theorem dX9_groupElement_32 : decode cX9_groupElement 32 = .ok (.aload_n 0, 1) := by decide +kernel
theorem dX9_groupElement_33 : decode cX9_groupElement 33 = .ok (.iconst 2, 1) := by decide +kernel
theorem dX9_groupElement_34 : decode cX9_groupElement 34 = .ok (.invokevirtual 74, 3) := by decide +kernel
theorem dX9_groupElement_37 : decode cX9_groupElement 37 = .ok (.ireturn, 1) := by decide +kernel
theorem dX9_groupAverage_0 : decode cX9_groupAverage 0 = .ok (.aload_n 0, 1) := by decide +kernel
theorem dX9_groupAverage_1 : decode cX9_groupAverage 1 = .ok (.iload_n 1, 1) := by decide +kernel
theorem dX9_groupAverage_2 : decode cX9_groupAverage 2 = .ok (.invokevirtual 181, 3) := by decide +kernel
theorem dX9_groupAverage_5 : decode cX9_groupAverage 5 = .ok (.ifCond .ne 5, 3) := by decide +kernel
theorem dX9_groupAverage_8 : decode cX9_groupAverage 8 = .ok (.dconst 0, 1) := by decide +kernel
theorem dX9_groupAverage_9 : decode cX9_groupAverage 9 = .ok (.dreturn, 1) := by decide +kernel
theorem dX9_groupAverage_10 : decode cX9_groupAverage 10 = .ok (.aload_n 0, 1) := by decide +kernel
theorem dX9_groupAverage_11 : decode cX9_groupAverage 11 = .ok (.getfield 172, 3) := by decide +kernel
theorem dX9_groupAverage_14 : decode cX9_groupAverage 14 = .ok (.ifCond .ne 10, 3) := by decide +kernel
theorem dX9_groupAverage_17 : decode cX9_groupAverage 17 = .ok (.aload_n 0, 1) := by decide +kernel
theorem dX9_groupAverage_18 : decode cX9_groupAverage 18 = .ok (.iconst 2, 1) := by decide +kernel
theorem dX9_groupAverage_19 : decode cX9_groupAverage 19 = .ok (.putfield 64, 3) := by decide +kernel
theorem dX9_groupAverage_22 : decode cX9_groupAverage 22 = .ok (.dconst 0, 1) := by decide +kernel
theorem dX9_groupAverage_23 : decode cX9_groupAverage 23 = .ok (.dreturn, 1) := by decide +kernel
theorem dX9_groupAverage_24 : decode cX9_groupAverage 24 = .ok (.aload_n 0, 1) := by decide +kernel
theorem dX9_groupAverage_25 : decode cX9_groupAverage 25 = .ok (.getfield 175, 3) := by decide +kernel
theorem dX9_groupAverage_28 : decode cX9_groupAverage 28 = .ok (.i2d, 1) := by decide +kernel
theorem dX9_groupAverage_29 : decode cX9_groupAverage 29 = .ok (.aload_n 0, 1) := by decide +kernel
theorem dX9_groupAverage_30 : decode cX9_groupAverage 30 = .ok (.getfield 172, 3) := by decide +kernel
theorem dX9_groupAverage_33 : decode cX9_groupAverage 33 = .ok (.i2d, 1) := by decide +kernel
theorem dX9_groupAverage_34 : decode cX9_groupAverage 34 = .ok (.ddiv, 1) := by decide +kernel
theorem dX9_groupAverage_35 : decode cX9_groupAverage 35 = .ok (.dreturn, 1) := by decide +kernel
theorem dX9_qualifiedGroups_0 : decode cX9_qualifiedGroups 0 = .ok (.aload_n 0, 1) := by decide +kernel
theorem dX9_qualifiedGroups_1 : decode cX9_qualifiedGroups 1 = .ok (.iconst 0, 1) := by decide +kernel
theorem dX9_qualifiedGroups_2 : decode cX9_qualifiedGroups 2 = .ok (.putfield 64, 3) := by decide +kernel
theorem dX9_qualifiedGroups_5 : decode cX9_qualifiedGroups 5 = .ok (.iconst 0, 1) := by decide +kernel
theorem dX9_qualifiedGroups_6 : decode cX9_qualifiedGroups 6 = .ok (.istore_n 2, 1) := by decide +kernel
theorem dX9_qualifiedGroups_7 : decode cX9_qualifiedGroups 7 = .ok (.iconst 0, 1) := by decide +kernel
theorem dX9_qualifiedGroups_8 : decode cX9_qualifiedGroups 8 = .ok (.istore_n 3, 1) := by decide +kernel
theorem dX9_qualifiedGroups_9 : decode cX9_qualifiedGroups 9 = .ok (.iload_n 3, 1) := by decide +kernel
theorem dX9_qualifiedGroups_10 : decode cX9_qualifiedGroups 10 = .ok (.bipush 6, 2) := by decide +kernel
theorem dX9_qualifiedGroups_12 : decode cX9_qualifiedGroups 12 = .ok (.if_icmp .ge 36, 3) := by decide +kernel
theorem dX9_qualifiedGroups_15 : decode cX9_qualifiedGroups 15 = .ok (.aload_n 0, 1) := by decide +kernel
theorem dX9_qualifiedGroups_16 : decode cX9_qualifiedGroups 16 = .ok (.iconst 0, 1) := by decide +kernel
theorem dX9_qualifiedGroups_17 : decode cX9_qualifiedGroups 17 = .ok (.iload_n 3, 1) := by decide +kernel
theorem dX9_qualifiedGroups_18 : decode cX9_qualifiedGroups 18 = .ok (.invokevirtual 178, 3) := by decide +kernel
theorem dX9_qualifiedGroups_21 : decode cX9_qualifiedGroups 21 = .ok (.aload_n 0, 1) := by decide +kernel
theorem dX9_qualifiedGroups_22 : decode cX9_qualifiedGroups 22 = .ok (.getfield 172, 3) := by decide +kernel
theorem dX9_qualifiedGroups_25 : decode cX9_qualifiedGroups 25 = .ok (.ifCond .le 17, 3) := by decide +kernel
theorem dX9_qualifiedGroups_28 : decode cX9_qualifiedGroups 28 = .ok (.aload_n 0, 1) := by decide +kernel
theorem dX9_qualifiedGroups_29 : decode cX9_qualifiedGroups 29 = .ok (.getfield 175, 3) := by decide +kernel
theorem dX9_qualifiedGroups_32 : decode cX9_qualifiedGroups 32 = .ok (.iload_n 1, 1) := by decide +kernel
theorem dX9_qualifiedGroups_33 : decode cX9_qualifiedGroups 33 = .ok (.if_icmp .lt 9, 3) := by decide +kernel
theorem dX9_qualifiedGroups_36 : decode cX9_qualifiedGroups 36 = .ok (.iload_n 2, 1) := by decide +kernel
theorem dX9_qualifiedGroups_37 : decode cX9_qualifiedGroups 37 = .ok (.iconst 1, 1) := by decide +kernel
theorem dX9_qualifiedGroups_38 : decode cX9_qualifiedGroups 38 = .ok (.iload_n 3, 1) := by decide +kernel
theorem dX9_qualifiedGroups_39 : decode cX9_qualifiedGroups 39 = .ok (.ishl, 1) := by decide +kernel
theorem dX9_qualifiedGroups_40 : decode cX9_qualifiedGroups 40 = .ok (.ior, 1) := by decide +kernel
theorem dX9_qualifiedGroups_41 : decode cX9_qualifiedGroups 41 = .ok (.istore_n 2, 1) := by decide +kernel
theorem dX9_qualifiedGroups_42 : decode cX9_qualifiedGroups 42 = .ok (.iinc 3 1, 3) := by decide +kernel
theorem dX9_qualifiedGroups_45 : decode cX9_qualifiedGroups 45 = .ok (.goto (-36), 3) := by decide +kernel
theorem dX9_qualifiedGroups_48 : decode cX9_qualifiedGroups 48 = .ok (.iload_n 2, 1) := by decide +kernel
theorem dX9_qualifiedGroups_49 : decode cX9_qualifiedGroups 49 = .ok (.ireturn, 1) := by decide +kernel
theorem dX9_rankedGroup_0 : decode cX9_rankedGroup 0 = .ok (.aload_n 0, 1) := by decide +kernel
theorem dX9_rankedGroup_1 : decode cX9_rankedGroup 1 = .ok (.iconst 0, 1) := by decide +kernel
theorem dX9_rankedGroup_2 : decode cX9_rankedGroup 2 = .ok (.putfield 64, 3) := by decide +kernel
theorem dX9_rankedGroup_5 : decode cX9_rankedGroup 5 = .ok (.iconst 0, 1) := by decide +kernel
theorem dX9_rankedGroup_6 : decode cX9_rankedGroup 6 = .ok (.istore_n 2, 1) := by decide +kernel
theorem dX9_rankedGroup_7 : decode cX9_rankedGroup 7 = .ok (.iconst 0, 1) := by decide +kernel
theorem dX9_rankedGroup_8 : decode cX9_rankedGroup 8 = .ok (.istore_n 3, 1) := by decide +kernel
theorem dX9_rankedGroup_9 : decode cX9_rankedGroup 9 = .ok (.iload_n 3, 1) := by decide +kernel
theorem dX9_rankedGroup_10 : decode cX9_rankedGroup 10 = .ok (.bipush 6, 2) := by decide +kernel
theorem dX9_rankedGroup_12 : decode cX9_rankedGroup 12 = .ok (.if_icmp .ge 99, 3) := by decide +kernel
theorem dX9_rankedGroup_15 : decode cX9_rankedGroup 15 = .ok (.aload_n 0, 1) := by decide +kernel
theorem dX9_rankedGroup_16 : decode cX9_rankedGroup 16 = .ok (.iconst 0, 1) := by decide +kernel
theorem dX9_rankedGroup_17 : decode cX9_rankedGroup 17 = .ok (.iload_n 3, 1) := by decide +kernel
theorem dX9_rankedGroup_18 : decode cX9_rankedGroup 18 = .ok (.invokevirtual 178, 3) := by decide +kernel
theorem dX9_rankedGroup_21 : decode cX9_rankedGroup 21 = .ok (.aload_n 0, 1) := by decide +kernel
theorem dX9_rankedGroup_22 : decode cX9_rankedGroup 22 = .ok (.getfield 172, 3) := by decide +kernel
theorem dX9_rankedGroup_25 : decode cX9_rankedGroup 25 = .ok (.ifCond .ne 6, 3) := by decide +kernel
theorem dX9_rankedGroup_28 : decode cX9_rankedGroup 28 = .ok (.goto 77, 3) := by decide +kernel
theorem dX9_rankedGroup_31 : decode cX9_rankedGroup 31 = .ok (.aload_n 0, 1) := by decide +kernel
theorem dX9_rankedGroup_32 : decode cX9_rankedGroup 32 = .ok (.getfield 39, 3) := by decide +kernel
theorem dX9_rankedGroup_35 : decode cX9_rankedGroup 35 = .ok (.iload_n 3, 1) := by decide +kernel
theorem dX9_rankedGroup_36 : decode cX9_rankedGroup 36 = .ok (.aload_n 0, 1) := by decide +kernel
theorem dX9_rankedGroup_37 : decode cX9_rankedGroup 37 = .ok (.getfield 175, 3) := by decide +kernel
theorem dX9_rankedGroup_40 : decode cX9_rankedGroup 40 = .ok (.iastore, 1) := by decide +kernel
theorem dX9_rankedGroup_41 : decode cX9_rankedGroup 41 = .ok (.iload_n 2, 1) := by decide +kernel
theorem dX9_rankedGroup_42 : decode cX9_rankedGroup 42 = .ok (.istore 4, 2) := by decide +kernel
theorem dX9_rankedGroup_44 : decode cX9_rankedGroup 44 = .ok (.iload 4, 2) := by decide +kernel
theorem dX9_rankedGroup_46 : decode cX9_rankedGroup 46 = .ok (.ifCond .le 48, 3) := by decide +kernel
theorem dX9_rankedGroup_49 : decode cX9_rankedGroup 49 = .ok (.aload_n 0, 1) := by decide +kernel
theorem dX9_rankedGroup_50 : decode cX9_rankedGroup 50 = .ok (.getfield 39, 3) := by decide +kernel
theorem dX9_rankedGroup_53 : decode cX9_rankedGroup 53 = .ok (.aload_n 0, 1) := by decide +kernel
theorem dX9_rankedGroup_54 : decode cX9_rankedGroup 54 = .ok (.getfield 42, 3) := by decide +kernel
theorem dX9_rankedGroup_57 : decode cX9_rankedGroup 57 = .ok (.iload 4, 2) := by decide +kernel
theorem dX9_rankedGroup_59 : decode cX9_rankedGroup 59 = .ok (.iconst 1, 1) := by decide +kernel
theorem dX9_rankedGroup_60 : decode cX9_rankedGroup 60 = .ok (.isub, 1) := by decide +kernel
theorem dX9_rankedGroup_61 : decode cX9_rankedGroup 61 = .ok (.iaload, 1) := by decide +kernel
theorem dX9_rankedGroup_62 : decode cX9_rankedGroup 62 = .ok (.iaload, 1) := by decide +kernel
theorem dX9_rankedGroup_63 : decode cX9_rankedGroup 63 = .ok (.aload_n 0, 1) := by decide +kernel
theorem dX9_rankedGroup_64 : decode cX9_rankedGroup 64 = .ok (.getfield 39, 3) := by decide +kernel
theorem dX9_rankedGroup_67 : decode cX9_rankedGroup 67 = .ok (.iload_n 3, 1) := by decide +kernel
theorem dX9_rankedGroup_68 : decode cX9_rankedGroup 68 = .ok (.iaload, 1) := by decide +kernel
theorem dX9_rankedGroup_69 : decode cX9_rankedGroup 69 = .ok (.if_icmp .ge 25, 3) := by decide +kernel
theorem dX9_rankedGroup_72 : decode cX9_rankedGroup 72 = .ok (.aload_n 0, 1) := by decide +kernel
theorem dX9_rankedGroup_73 : decode cX9_rankedGroup 73 = .ok (.getfield 42, 3) := by decide +kernel
theorem dX9_rankedGroup_76 : decode cX9_rankedGroup 76 = .ok (.iload 4, 2) := by decide +kernel
theorem dX9_rankedGroup_78 : decode cX9_rankedGroup 78 = .ok (.aload_n 0, 1) := by decide +kernel
theorem dX9_rankedGroup_79 : decode cX9_rankedGroup 79 = .ok (.getfield 42, 3) := by decide +kernel
theorem dX9_rankedGroup_82 : decode cX9_rankedGroup 82 = .ok (.iload 4, 2) := by decide +kernel
theorem dX9_rankedGroup_84 : decode cX9_rankedGroup 84 = .ok (.iconst 1, 1) := by decide +kernel
theorem dX9_rankedGroup_85 : decode cX9_rankedGroup 85 = .ok (.isub, 1) := by decide +kernel
theorem dX9_rankedGroup_86 : decode cX9_rankedGroup 86 = .ok (.iaload, 1) := by decide +kernel
theorem dX9_rankedGroup_87 : decode cX9_rankedGroup 87 = .ok (.iastore, 1) := by decide +kernel
theorem dX9_rankedGroup_88 : decode cX9_rankedGroup 88 = .ok (.iinc 4 (-1), 3) := by decide +kernel
theorem dX9_rankedGroup_91 : decode cX9_rankedGroup 91 = .ok (.goto (-47), 3) := by decide +kernel
theorem dX9_rankedGroup_94 : decode cX9_rankedGroup 94 = .ok (.aload_n 0, 1) := by decide +kernel
theorem dX9_rankedGroup_95 : decode cX9_rankedGroup 95 = .ok (.getfield 42, 3) := by decide +kernel
theorem dX9_rankedGroup_98 : decode cX9_rankedGroup 98 = .ok (.iload 4, 2) := by decide +kernel
theorem dX9_rankedGroup_100 : decode cX9_rankedGroup 100 = .ok (.iload_n 3, 1) := by decide +kernel
theorem dX9_rankedGroup_101 : decode cX9_rankedGroup 101 = .ok (.iastore, 1) := by decide +kernel
theorem dX9_rankedGroup_102 : decode cX9_rankedGroup 102 = .ok (.iinc 2 1, 3) := by decide +kernel
theorem dX9_rankedGroup_105 : decode cX9_rankedGroup 105 = .ok (.iinc 3 1, 3) := by decide +kernel
theorem dX9_rankedGroup_108 : decode cX9_rankedGroup 108 = .ok (.goto (-99), 3) := by decide +kernel
theorem dX9_rankedGroup_111 : decode cX9_rankedGroup 111 = .ok (.iload_n 1, 1) := by decide +kernel
theorem dX9_rankedGroup_112 : decode cX9_rankedGroup 112 = .ok (.iconst 0, 1) := by decide +kernel
theorem dX9_rankedGroup_113 : decode cX9_rankedGroup 113 = .ok (.iload_n 2, 1) := by decide +kernel
theorem dX9_rankedGroup_114 : decode cX9_rankedGroup 114 = .ok (.iconst 1, 1) := by decide +kernel
theorem dX9_rankedGroup_115 : decode cX9_rankedGroup 115 = .ok (.isub, 1) := by decide +kernel
theorem dX9_rankedGroup_116 : decode cX9_rankedGroup 116 = .ok (.invokestatic 67, 3) := by decide +kernel
theorem dX9_rankedGroup_119 : decode cX9_rankedGroup 119 = .ok (.ifCond .eq 12, 3) := by decide +kernel
theorem dX9_rankedGroup_122 : decode cX9_rankedGroup 122 = .ok (.aload_n 0, 1) := by decide +kernel
theorem dX9_rankedGroup_123 : decode cX9_rankedGroup 123 = .ok (.getfield 42, 3) := by decide +kernel
theorem dX9_rankedGroup_126 : decode cX9_rankedGroup 126 = .ok (.iload_n 1, 1) := by decide +kernel
theorem dX9_rankedGroup_127 : decode cX9_rankedGroup 127 = .ok (.iaload, 1) := by decide +kernel
theorem dX9_rankedGroup_128 : decode cX9_rankedGroup 128 = .ok (.goto 8, 3) := by decide +kernel
theorem dX9_rankedGroup_131 : decode cX9_rankedGroup 131 = .ok (.aload_n 0, 1) := by decide +kernel
theorem dX9_rankedGroup_132 : decode cX9_rankedGroup 132 = .ok (.iconst 1, 1) := by decide +kernel
theorem dX9_rankedGroup_133 : decode cX9_rankedGroup 133 = .ok (.invokevirtual 74, 3) := by decide +kernel
theorem dX9_rankedGroup_136 : decode cX9_rankedGroup 136 = .ok (.ireturn, 1) := by decide +kernel
theorem dX9_changeCount_0 : decode cX9_changeCount 0 = .ok (.aload_n 0, 1) := by decide +kernel
theorem dX9_changeCount_1 : decode cX9_changeCount 1 = .ok (.iconst 0, 1) := by decide +kernel
theorem dX9_changeCount_2 : decode cX9_changeCount 2 = .ok (.putfield 64, 3) := by decide +kernel
theorem dX9_changeCount_5 : decode cX9_changeCount 5 = .ok (.aload_n 0, 1) := by decide +kernel
theorem dX9_changeCount_6 : decode cX9_changeCount 6 = .ok (.iconst 1, 1) := by decide +kernel
theorem dX9_changeCount_7 : decode cX9_changeCount 7 = .ok (.invokevirtual 118, 3) := by decide +kernel
theorem dX9_changeCount_10 : decode cX9_changeCount 10 = .ok (.ireturn, 1) := by decide +kernel
theorem dX9_changeRow_0 : decode cX9_changeRow 0 = .ok (.aload_n 0, 1) := by decide +kernel
theorem dX9_changeRow_1 : decode cX9_changeRow 1 = .ok (.iload_n 1, 1) := by decide +kernel
theorem dX9_changeRow_2 : decode cX9_changeRow 2 = .ok (.iload_n 2, 1) := by decide +kernel
theorem dX9_changeRow_3 : decode cX9_changeRow 3 = .ok (.iconst 1, 1) := by decide +kernel
theorem dX9_changeRow_4 : decode cX9_changeRow 4 = .ok (.invokevirtual 161, 3) := by decide +kernel
theorem dX9_changeRow_7 : decode cX9_changeRow 7 = .ok (.ireturn, 1) := by decide +kernel
theorem dX9_watch_0 : decode cX9_watch 0 = .ok (.iload_n 1, 1) := by decide +kernel
theorem dX9_watch_1 : decode cX9_watch 1 = .ok (.iconst 0, 1) := by decide +kernel
theorem dX9_watch_2 : decode cX9_watch 2 = .ok (.iconst 5, 1) := by decide +kernel
theorem dX9_watch_3 : decode cX9_watch 3 = .ok (.invokestatic 67, 3) := by decide +kernel
theorem dX9_watch_6 : decode cX9_watch 6 = .ok (.ifCond .ne 9, 3) := by decide +kernel
theorem dX9_watch_9 : decode cX9_watch 9 = .ok (.aload_n 0, 1) := by decide +kernel
theorem dX9_watch_10 : decode cX9_watch 10 = .ok (.iconst 1, 1) := by decide +kernel
theorem dX9_watch_11 : decode cX9_watch 11 = .ok (.invokevirtual 74, 3) := by decide +kernel
theorem dX9_watch_14 : decode cX9_watch 14 = .ok (.ireturn, 1) := by decide +kernel
theorem dX9_watch_15 : decode cX9_watch 15 = .ok (.aload_n 0, 1) := by decide +kernel
theorem dX9_watch_16 : decode cX9_watch 16 = .ok (.getfield 187, 3) := by decide +kernel
theorem dX9_watch_19 : decode cX9_watch 19 = .ok (.bipush 6, 2) := by decide +kernel
theorem dX9_watch_21 : decode cX9_watch 21 = .ok (.if_icmp .ne 9, 3) := by decide +kernel
theorem dX9_watch_24 : decode cX9_watch 24 = .ok (.aload_n 0, 1) := by decide +kernel
theorem dX9_watch_25 : decode cX9_watch 25 = .ok (.iconst 2, 1) := by decide +kernel
theorem dX9_watch_26 : decode cX9_watch 26 = .ok (.invokevirtual 74, 3) := by decide +kernel
theorem dX9_watch_29 : decode cX9_watch 29 = .ok (.ireturn, 1) := by decide +kernel
theorem dX9_watch_30 : decode cX9_watch 30 = .ok (.aload_n 0, 1) := by decide +kernel
theorem dX9_watch_31 : decode cX9_watch 31 = .ok (.iconst 0, 1) := by decide +kernel
theorem dX9_watch_32 : decode cX9_watch 32 = .ok (.putfield 64, 3) := by decide +kernel
theorem dX9_watch_35 : decode cX9_watch 35 = .ok (.aload_n 0, 1) := by decide +kernel
theorem dX9_watch_36 : decode cX9_watch 36 = .ok (.getfield 45, 3) := by decide +kernel
theorem dX9_watch_39 : decode cX9_watch 39 = .ok (.aload_n 0, 1) := by decide +kernel
theorem dX9_watch_40 : decode cX9_watch 40 = .ok (.getfield 187, 3) := by decide +kernel
theorem dX9_watch_43 : decode cX9_watch 43 = .ok (.iload_n 1, 1) := by decide +kernel
theorem dX9_watch_44 : decode cX9_watch 44 = .ok (.iastore, 1) := by decide +kernel
theorem dX9_watch_45 : decode cX9_watch 45 = .ok (.aload_n 0, 1) := by decide +kernel
theorem dX9_watch_46 : decode cX9_watch 46 = .ok (.getfield 48, 3) := by decide +kernel
theorem dX9_watch_49 : decode cX9_watch 49 = .ok (.aload_n 0, 1) := by decide +kernel
theorem dX9_watch_50 : decode cX9_watch 50 = .ok (.getfield 187, 3) := by decide +kernel
theorem dX9_watch_53 : decode cX9_watch 53 = .ok (.iload_n 2, 1) := by decide +kernel
theorem dX9_watch_54 : decode cX9_watch 54 = .ok (.iastore, 1) := by decide +kernel
theorem dX9_watch_55 : decode cX9_watch 55 = .ok (.aload_n 0, 1) := by decide +kernel
theorem dX9_watch_56 : decode cX9_watch 56 = .ok (.dup, 1) := by decide +kernel
theorem dX9_watch_57 : decode cX9_watch 57 = .ok (.getfield 187, 3) := by decide +kernel
theorem dX9_watch_60 : decode cX9_watch 60 = .ok (.iconst 1, 1) := by decide +kernel
theorem dX9_watch_61 : decode cX9_watch 61 = .ok (.iadd, 1) := by decide +kernel
theorem dX9_watch_62 : decode cX9_watch 62 = .ok (.putfield 187, 3) := by decide +kernel
theorem dX9_watch_65 : decode cX9_watch 65 = .ok (.aload_n 0, 1) := by decide +kernel
theorem dX9_watch_66 : decode cX9_watch 66 = .ok (.getfield 187, 3) := by decide +kernel
theorem dX9_watch_69 : decode cX9_watch 69 = .ok (.iconst 1, 1) := by decide +kernel
theorem dX9_watch_70 : decode cX9_watch 70 = .ok (.isub, 1) := by decide +kernel
theorem dX9_watch_71 : decode cX9_watch 71 = .ok (.ireturn, 1) := by decide +kernel
theorem dX9_isUp_0 : decode cX9_isUp 0 = .ok (.aload_n 0, 1) := by decide +kernel
theorem dX9_isUp_1 : decode cX9_isUp 1 = .ok (.iload_n 1, 1) := by decide +kernel
theorem dX9_isUp_2 : decode cX9_isUp 2 = .ok (.aload_n 0, 1) := by decide +kernel
theorem dX9_isUp_3 : decode cX9_isUp 3 = .ok (.getfield 45, 3) := by decide +kernel
theorem dX9_isUp_6 : decode cX9_isUp 6 = .ok (.iload_n 2, 1) := by decide +kernel
theorem dX9_isUp_7 : decode cX9_isUp 7 = .ok (.iaload, 1) := by decide +kernel
theorem dX9_isUp_8 : decode cX9_isUp 8 = .ok (.invokevirtual 178, 3) := by decide +kernel
theorem dX9_isUp_11 : decode cX9_isUp 11 = .ok (.aload_n 0, 1) := by decide +kernel
theorem dX9_isUp_12 : decode cX9_isUp 12 = .ok (.getfield 172, 3) := by decide +kernel
theorem dX9_isUp_15 : decode cX9_isUp 15 = .ok (.ifCond .le 20, 3) := by decide +kernel
theorem dX9_isUp_18 : decode cX9_isUp 18 = .ok (.aload_n 0, 1) := by decide +kernel
theorem dX9_isUp_19 : decode cX9_isUp 19 = .ok (.getfield 175, 3) := by decide +kernel
theorem dX9_isUp_22 : decode cX9_isUp 22 = .ok (.aload_n 0, 1) := by decide +kernel
theorem dX9_isUp_23 : decode cX9_isUp 23 = .ok (.getfield 48, 3) := by decide +kernel
theorem dX9_isUp_26 : decode cX9_isUp 26 = .ok (.iload_n 2, 1) := by decide +kernel
theorem dX9_isUp_27 : decode cX9_isUp 27 = .ok (.iaload, 1) := by decide +kernel
theorem dX9_isUp_28 : decode cX9_isUp 28 = .ok (.if_icmp .lt 7, 3) := by decide +kernel
theorem dX9_isUp_31 : decode cX9_isUp 31 = .ok (.iconst 1, 1) := by decide +kernel
theorem dX9_isUp_32 : decode cX9_isUp 32 = .ok (.goto 4, 3) := by decide +kernel
theorem dX9_isUp_35 : decode cX9_isUp 35 = .ok (.iconst 0, 1) := by decide +kernel
theorem dX9_isUp_36 : decode cX9_isUp 36 = .ok (.ireturn, 1) := by decide +kernel
theorem dX9_isRaised_0 : decode cX9_isRaised 0 = .ok (.iload_n 1, 1) := by decide +kernel
theorem dX9_isRaised_1 : decode cX9_isRaised 1 = .ok (.iconst 0, 1) := by decide +kernel
theorem dX9_isRaised_2 : decode cX9_isRaised 2 = .ok (.aload_n 0, 1) := by decide +kernel
theorem dX9_isRaised_3 : decode cX9_isRaised 3 = .ok (.getfield 187, 3) := by decide +kernel
theorem dX9_isRaised_6 : decode cX9_isRaised 6 = .ok (.iconst 1, 1) := by decide +kernel
theorem dX9_isRaised_7 : decode cX9_isRaised 7 = .ok (.isub, 1) := by decide +kernel
theorem dX9_isRaised_8 : decode cX9_isRaised 8 = .ok (.invokestatic 67, 3) := by decide +kernel
theorem dX9_isRaised_11 : decode cX9_isRaised 11 = .ok (.ifCond .ne 9, 3) := by decide +kernel
theorem dX9_isRaised_14 : decode cX9_isRaised 14 = .ok (.aload_n 0, 1) := by decide +kernel
theorem dX9_isRaised_15 : decode cX9_isRaised 15 = .ok (.iconst 1, 1) := by decide +kernel
theorem dX9_isRaised_16 : decode cX9_isRaised 16 = .ok (.invokevirtual 190, 3) := by decide +kernel
theorem dX9_isRaised_19 : decode cX9_isRaised 19 = .ok (.ireturn, 1) := by decide +kernel
theorem dX9_isRaised_20 : decode cX9_isRaised 20 = .ok (.aload_n 0, 1) := by decide +kernel
theorem dX9_isRaised_21 : decode cX9_isRaised 21 = .ok (.iconst 0, 1) := by decide +kernel
theorem dX9_isRaised_22 : decode cX9_isRaised 22 = .ok (.putfield 64, 3) := by decide +kernel
theorem dX9_isRaised_25 : decode cX9_isRaised 25 = .ok (.aload_n 0, 1) := by decide +kernel
theorem dX9_isRaised_26 : decode cX9_isRaised 26 = .ok (.iconst 0, 1) := by decide +kernel
theorem dX9_isRaised_27 : decode cX9_isRaised 27 = .ok (.iload_n 1, 1) := by decide +kernel
theorem dX9_isRaised_28 : decode cX9_isRaised 28 = .ok (.invokevirtual 193, 3) := by decide +kernel
theorem dX9_isRaised_31 : decode cX9_isRaised 31 = .ok (.ireturn, 1) := by decide +kernel
theorem dX9_changedWatches_0 : decode cX9_changedWatches 0 = .ok (.aload_n 0, 1) := by decide +kernel
theorem dX9_changedWatches_1 : decode cX9_changedWatches 1 = .ok (.iconst 0, 1) := by decide +kernel
theorem dX9_changedWatches_2 : decode cX9_changedWatches 2 = .ok (.putfield 64, 3) := by decide +kernel
theorem dX9_changedWatches_5 : decode cX9_changedWatches 5 = .ok (.iconst 0, 1) := by decide +kernel
theorem dX9_changedWatches_6 : decode cX9_changedWatches 6 = .ok (.istore_n 1, 1) := by decide +kernel
theorem dX9_changedWatches_7 : decode cX9_changedWatches 7 = .ok (.iconst 0, 1) := by decide +kernel
theorem dX9_changedWatches_8 : decode cX9_changedWatches 8 = .ok (.istore_n 2, 1) := by decide +kernel
theorem dX9_changedWatches_9 : decode cX9_changedWatches 9 = .ok (.iload_n 2, 1) := by decide +kernel
theorem dX9_changedWatches_10 : decode cX9_changedWatches 10 = .ok (.aload_n 0, 1) := by decide +kernel
theorem dX9_changedWatches_11 : decode cX9_changedWatches 11 = .ok (.getfield 187, 3) := by decide +kernel
theorem dX9_changedWatches_14 : decode cX9_changedWatches 14 = .ok (.if_icmp .ge 34, 3) := by decide +kernel
theorem dX9_changedWatches_17 : decode cX9_changedWatches 17 = .ok (.iload_n 1, 1) := by decide +kernel
theorem dX9_changedWatches_18 : decode cX9_changedWatches 18 = .ok (.aload_n 0, 1) := by decide +kernel
theorem dX9_changedWatches_19 : decode cX9_changedWatches 19 = .ok (.iconst 0, 1) := by decide +kernel
theorem dX9_changedWatches_20 : decode cX9_changedWatches 20 = .ok (.iload_n 2, 1) := by decide +kernel
theorem dX9_changedWatches_21 : decode cX9_changedWatches 21 = .ok (.invokevirtual 193, 3) := by decide +kernel
theorem dX9_changedWatches_24 : decode cX9_changedWatches 24 = .ok (.aload_n 0, 1) := by decide +kernel
theorem dX9_changedWatches_25 : decode cX9_changedWatches 25 = .ok (.iconst 4, 1) := by decide +kernel
theorem dX9_changedWatches_26 : decode cX9_changedWatches 26 = .ok (.iload_n 2, 1) := by decide +kernel
theorem dX9_changedWatches_27 : decode cX9_changedWatches 27 = .ok (.invokevirtual 193, 3) := by decide +kernel
theorem dX9_changedWatches_30 : decode cX9_changedWatches 30 = .ok (.if_icmp .eq 9, 3) := by decide +kernel
theorem dX9_changedWatches_33 : decode cX9_changedWatches 33 = .ok (.iconst 1, 1) := by decide +kernel
theorem dX9_changedWatches_34 : decode cX9_changedWatches 34 = .ok (.iload_n 2, 1) := by decide +kernel
theorem dX9_changedWatches_35 : decode cX9_changedWatches 35 = .ok (.ishl, 1) := by decide +kernel
theorem dX9_changedWatches_36 : decode cX9_changedWatches 36 = .ok (.goto 4, 3) := by decide +kernel
theorem dX9_changedWatches_39 : decode cX9_changedWatches 39 = .ok (.iconst 0, 1) := by decide +kernel
theorem dX9_changedWatches_40 : decode cX9_changedWatches 40 = .ok (.ior, 1) := by decide +kernel
theorem dX9_changedWatches_41 : decode cX9_changedWatches 41 = .ok (.istore_n 1, 1) := by decide +kernel
theorem dX9_changedWatches_42 : decode cX9_changedWatches 42 = .ok (.iinc 2 1, 3) := by decide +kernel
theorem dX9_changedWatches_45 : decode cX9_changedWatches 45 = .ok (.goto (-36), 3) := by decide +kernel
theorem dX9_changedWatches_48 : decode cX9_changedWatches 48 = .ok (.iload_n 1, 1) := by decide +kernel
theorem dX9_changedWatches_49 : decode cX9_changedWatches 49 = .ok (.ireturn, 1) := by decide +kernel
theorem dX9_clearWatches_0 : decode cX9_clearWatches 0 = .ok (.aload_n 0, 1) := by decide +kernel
theorem dX9_clearWatches_1 : decode cX9_clearWatches 1 = .ok (.iconst 0, 1) := by decide +kernel
theorem dX9_clearWatches_2 : decode cX9_clearWatches 2 = .ok (.putfield 64, 3) := by decide +kernel
theorem dX9_clearWatches_5 : decode cX9_clearWatches 5 = .ok (.aload_n 0, 1) := by decide +kernel
theorem dX9_clearWatches_6 : decode cX9_clearWatches 6 = .ok (.getfield 187, 3) := by decide +kernel
theorem dX9_clearWatches_9 : decode cX9_clearWatches 9 = .ok (.istore_n 1, 1) := by decide +kernel
theorem dX9_clearWatches_10 : decode cX9_clearWatches 10 = .ok (.aload_n 0, 1) := by decide +kernel
theorem dX9_clearWatches_11 : decode cX9_clearWatches 11 = .ok (.iconst 0, 1) := by decide +kernel
theorem dX9_clearWatches_12 : decode cX9_clearWatches 12 = .ok (.putfield 187, 3) := by decide +kernel
theorem dX9_clearWatches_15 : decode cX9_clearWatches 15 = .ok (.iload_n 1, 1) := by decide +kernel
theorem dX9_clearWatches_16 : decode cX9_clearWatches 16 = .ok (.ireturn, 1) := by decide +kernel
theorem dX9_appendCharacter_0 : decode cX9_appendCharacter 0 = .ok (.iload_n 1, 1) := by decide +kernel
theorem dX9_appendCharacter_1 : decode cX9_appendCharacter 1 = .ok (.bipush 33, 2) := by decide +kernel
theorem dX9_appendCharacter_3 : decode cX9_appendCharacter 3 = .ok (.bipush 126, 2) := by decide +kernel
theorem dX9_appendCharacter_5 : decode cX9_appendCharacter 5 = .ok (.invokestatic 67, 3) := by decide +kernel
theorem dX9_appendCharacter_8 : decode cX9_appendCharacter 8 = .ok (.ifCond .ne 9, 3) := by decide +kernel
theorem dX9_appendCharacter_11 : decode cX9_appendCharacter 11 = .ok (.aload_n 0, 1) := by decide +kernel
theorem dX9_appendCharacter_12 : decode cX9_appendCharacter 12 = .ok (.iconst 1, 1) := by decide +kernel
theorem dX9_appendCharacter_13 : decode cX9_appendCharacter 13 = .ok (.invokevirtual 74, 3) := by decide +kernel
theorem dX9_appendCharacter_16 : decode cX9_appendCharacter 16 = .ok (.ireturn, 1) := by decide +kernel
theorem dX9_appendCharacter_17 : decode cX9_appendCharacter 17 = .ok (.aload_n 0, 1) := by decide +kernel
theorem dX9_appendCharacter_18 : decode cX9_appendCharacter 18 = .ok (.getfield 196, 3) := by decide +kernel
theorem dX9_appendCharacter_21 : decode cX9_appendCharacter 21 = .ok (.bipush 40, 2) := by decide +kernel
theorem dX9_appendCharacter_23 : decode cX9_appendCharacter 23 = .ok (.if_icmp .ne 9, 3) := by decide +kernel
theorem dX9_appendCharacter_26 : decode cX9_appendCharacter 26 = .ok (.aload_n 0, 1) := by decide +kernel
theorem dX9_appendCharacter_27 : decode cX9_appendCharacter 27 = .ok (.iconst 2, 1) := by decide +kernel
theorem dX9_appendCharacter_28 : decode cX9_appendCharacter 28 = .ok (.invokevirtual 74, 3) := by decide +kernel
theorem dX9_appendCharacter_31 : decode cX9_appendCharacter 31 = .ok (.ireturn, 1) := by decide +kernel
theorem dX9_appendCharacter_32 : decode cX9_appendCharacter 32 = .ok (.aload_n 0, 1) := by decide +kernel
theorem dX9_appendCharacter_33 : decode cX9_appendCharacter 33 = .ok (.iconst 0, 1) := by decide +kernel
theorem dX9_appendCharacter_34 : decode cX9_appendCharacter 34 = .ok (.putfield 64, 3) := by decide +kernel
theorem dX9_appendCharacter_37 : decode cX9_appendCharacter 37 = .ok (.aload_n 0, 1) := by decide +kernel
theorem dX9_appendCharacter_38 : decode cX9_appendCharacter 38 = .ok (.getfield 57, 3) := by decide +kernel
theorem dX9_appendCharacter_41 : decode cX9_appendCharacter 41 = .ok (.aload_n 0, 1) := by decide +kernel
theorem dX9_appendCharacter_42 : decode cX9_appendCharacter 42 = .ok (.getfield 196, 3) := by decide +kernel
theorem dX9_appendCharacter_45 : decode cX9_appendCharacter 45 = .ok (.iload_n 1, 1) := by decide +kernel
theorem dX9_appendCharacter_46 : decode cX9_appendCharacter 46 = .ok (.iastore, 1) := by decide +kernel
theorem dX9_appendCharacter_47 : decode cX9_appendCharacter 47 = .ok (.aload_n 0, 1) := by decide +kernel
theorem dX9_appendCharacter_48 : decode cX9_appendCharacter 48 = .ok (.dup, 1) := by decide +kernel
theorem dX9_appendCharacter_49 : decode cX9_appendCharacter 49 = .ok (.getfield 196, 3) := by decide +kernel
theorem dX9_appendCharacter_52 : decode cX9_appendCharacter 52 = .ok (.iconst 1, 1) := by decide +kernel
theorem dX9_appendCharacter_53 : decode cX9_appendCharacter 53 = .ok (.iadd, 1) := by decide +kernel
theorem dX9_appendCharacter_54 : decode cX9_appendCharacter 54 = .ok (.putfield 196, 3) := by decide +kernel
theorem dX9_appendCharacter_57 : decode cX9_appendCharacter 57 = .ok (.aload_n 0, 1) := by decide +kernel
theorem dX9_appendCharacter_58 : decode cX9_appendCharacter 58 = .ok (.getfield 196, 3) := by decide +kernel
theorem dX9_appendCharacter_61 : decode cX9_appendCharacter 61 = .ok (.ireturn, 1) := by decide +kernel
theorem dX9_next_0 : decode cX9_next 0 = .ok (.aload_n 0, 1) := by decide +kernel
theorem dX9_next_1 : decode cX9_next 1 = .ok (.getfield 199, 3) := by decide +kernel
theorem dX9_next_4 : decode cX9_next 4 = .ok (.aload_n 0, 1) := by decide +kernel
theorem dX9_next_5 : decode cX9_next 5 = .ok (.getfield 196, 3) := by decide +kernel
theorem dX9_next_8 : decode cX9_next 8 = .ok (.if_icmp .ge 15, 3) := by decide +kernel
theorem dX9_next_11 : decode cX9_next 11 = .ok (.aload_n 0, 1) := by decide +kernel
theorem dX9_next_12 : decode cX9_next 12 = .ok (.getfield 57, 3) := by decide +kernel
theorem dX9_next_15 : decode cX9_next 15 = .ok (.aload_n 0, 1) := by decide +kernel
theorem dX9_next_16 : decode cX9_next 16 = .ok (.getfield 199, 3) := by decide +kernel
theorem dX9_next_19 : decode cX9_next 19 = .ok (.iaload, 1) := by decide +kernel
theorem dX9_next_20 : decode cX9_next 20 = .ok (.goto 4, 3) := by decide +kernel
theorem dX9_next_23 : decode cX9_next 23 = .ok (.iconst (-1), 1) := by decide +kernel
theorem dX9_next_24 : decode cX9_next 24 = .ok (.ireturn, 1) := by decide +kernel
theorem dX9_isDigit_0 : decode cX9_isDigit 0 = .ok (.aload_n 0, 1) := by decide +kernel
theorem dX9_isDigit_1 : decode cX9_isDigit 1 = .ok (.invokevirtual 202, 3) := by decide +kernel
theorem dX9_isDigit_4 : decode cX9_isDigit 4 = .ok (.bipush 48, 2) := by decide +kernel
theorem dX9_isDigit_6 : decode cX9_isDigit 6 = .ok (.bipush 57, 2) := by decide +kernel
theorem dX9_isDigit_8 : decode cX9_isDigit 8 = .ok (.invokestatic 67, 3) := by decide +kernel
theorem dX9_isDigit_11 : decode cX9_isDigit 11 = .ok (.ireturn, 1) := by decide +kernel
theorem dX9_makes_0 : decode cX9_makes 0 = .ok (.aload_n 0, 1) := by decide +kernel
theorem dX9_makes_1 : decode cX9_makes 1 = .ok (.getfield 19, 3) := by decide +kernel
theorem dX9_makes_4 : decode cX9_makes 4 = .ok (.aload_n 0, 1) := by decide +kernel
theorem dX9_makes_5 : decode cX9_makes 5 = .ok (.getfield 205, 3) := by decide +kernel
theorem dX9_makes_8 : decode cX9_makes 8 = .ok (.iload_n 1, 1) := by decide +kernel
theorem dX9_makes_9 : decode cX9_makes 9 = .ok (.iastore, 1) := by decide +kernel
theorem dX9_makes_10 : decode cX9_makes 10 = .ok (.aload_n 0, 1) := by decide +kernel
theorem dX9_makes_11 : decode cX9_makes 11 = .ok (.dup, 1) := by decide +kernel
theorem dX9_makes_12 : decode cX9_makes 12 = .ok (.getfield 205, 3) := by decide +kernel
theorem dX9_makes_15 : decode cX9_makes 15 = .ok (.iconst 1, 1) := by decide +kernel
theorem dX9_makes_16 : decode cX9_makes 16 = .ok (.iadd, 1) := by decide +kernel
theorem dX9_makes_17 : decode cX9_makes 17 = .ok (.putfield 205, 3) := by decide +kernel
theorem dX9_makes_20 : decode cX9_makes 20 = .ok (.return_, 1) := by decide +kernel
theorem dX9_makesFrom_0 : decode cX9_makesFrom 0 = .ok (.aload_n 0, 1) := by decide +kernel
theorem dX9_makesFrom_1 : decode cX9_makesFrom 1 = .ok (.getfield 208, 3) := by decide +kernel
theorem dX9_makesFrom_4 : decode cX9_makesFrom 4 = .ok (.ifCond .le 44, 3) := by decide +kernel
theorem dX9_makesFrom_7 : decode cX9_makesFrom 7 = .ok (.aload_n 0, 1) := by decide +kernel
theorem dX9_makesFrom_8 : decode cX9_makesFrom 8 = .ok (.getfield 22, 3) := by decide +kernel
theorem dX9_makesFrom_11 : decode cX9_makesFrom 11 = .ok (.aload_n 0, 1) := by decide +kernel
theorem dX9_makesFrom_12 : decode cX9_makesFrom 12 = .ok (.getfield 208, 3) := by decide +kernel
theorem dX9_makesFrom_15 : decode cX9_makesFrom 15 = .ok (.iconst 1, 1) := by decide +kernel
theorem dX9_makesFrom_16 : decode cX9_makesFrom 16 = .ok (.isub, 1) := by decide +kernel
theorem dX9_makesFrom_17 : decode cX9_makesFrom 17 = .ok (.iaload, 1) := by decide +kernel
theorem dX9_makesFrom_18 : decode cX9_makesFrom 18 = .ok (.iload_n 1, 1) := by decide +kernel
theorem dX9_makesFrom_19 : decode cX9_makesFrom 19 = .ok (.if_icmp .gt 29, 3) := by decide +kernel
theorem dX9_makesFrom_22 : decode cX9_makesFrom 22 = .ok (.aload_n 0, 1) := by decide +kernel
theorem dX9_makesFrom_23 : decode cX9_makesFrom 23 = .ok (.dup, 1) := by decide +kernel
theorem dX9_makesFrom_24 : decode cX9_makesFrom 24 = .ok (.getfield 208, 3) := by decide +kernel
theorem dX9_makesFrom_27 : decode cX9_makesFrom 27 = .ok (.iconst 1, 1) := by decide +kernel
theorem dX9_makesFrom_28 : decode cX9_makesFrom 28 = .ok (.isub, 1) := by decide +kernel
theorem dX9_makesFrom_29 : decode cX9_makesFrom 29 = .ok (.putfield 208, 3) := by decide +kernel
theorem dX9_makesFrom_32 : decode cX9_makesFrom 32 = .ok (.aload_n 0, 1) := by decide +kernel
theorem dX9_makesFrom_33 : decode cX9_makesFrom 33 = .ok (.aload_n 0, 1) := by decide +kernel
theorem dX9_makesFrom_34 : decode cX9_makesFrom 34 = .ok (.getfield 22, 3) := by decide +kernel
theorem dX9_makesFrom_37 : decode cX9_makesFrom 37 = .ok (.aload_n 0, 1) := by decide +kernel
theorem dX9_makesFrom_38 : decode cX9_makesFrom 38 = .ok (.getfield 208, 3) := by decide +kernel
theorem dX9_makesFrom_41 : decode cX9_makesFrom 41 = .ok (.iaload, 1) := by decide +kernel
theorem dX9_makesFrom_42 : decode cX9_makesFrom 42 = .ok (.invokevirtual 211, 3) := by decide +kernel
theorem dX9_makesFrom_45 : decode cX9_makesFrom 45 = .ok (.goto (-45), 3) := by decide +kernel
theorem dX9_makesFrom_48 : decode cX9_makesFrom 48 = .ok (.return_, 1) := by decide +kernel
theorem dX9_takesComparison_0 : decode cX9_takesComparison 0 = .ok (.aload_n 0, 1) := by decide +kernel
theorem dX9_takesComparison_1 : decode cX9_takesComparison 1 = .ok (.invokevirtual 202, 3) := by decide +kernel
theorem dX9_takesComparison_4 : decode cX9_takesComparison 4 = .ok (.invokestatic 215, 3) := by decide +kernel
theorem dX9_takesComparison_7 : decode cX9_takesComparison 7 = .ok (.istore_n 1, 1) := by decide +kernel
theorem dX9_takesComparison_8 : decode cX9_takesComparison 8 = .ok (.iload_n 1, 1) := by decide +kernel
theorem dX9_takesComparison_9 : decode cX9_takesComparison 9 = .ok (.ifCond .ge 5, 3) := by decide +kernel
theorem dX9_takesComparison_12 : decode cX9_takesComparison 12 = .ok (.iconst 0, 1) := by decide +kernel
theorem dX9_takesComparison_13 : decode cX9_takesComparison 13 = .ok (.ireturn, 1) := by decide +kernel
theorem dX9_takesComparison_14 : decode cX9_takesComparison 14 = .ok (.aload_n 0, 1) := by decide +kernel
theorem dX9_takesComparison_15 : decode cX9_takesComparison 15 = .ok (.dup, 1) := by decide +kernel
theorem dX9_takesComparison_16 : decode cX9_takesComparison 16 = .ok (.getfield 199, 3) := by decide +kernel
theorem dX9_takesComparison_19 : decode cX9_takesComparison 19 = .ok (.iconst 1, 1) := by decide +kernel
theorem dX9_takesComparison_20 : decode cX9_takesComparison 20 = .ok (.iadd, 1) := by decide +kernel
theorem dX9_takesComparison_21 : decode cX9_takesComparison 21 = .ok (.putfield 199, 3) := by decide +kernel
theorem dX9_takesComparison_24 : decode cX9_takesComparison 24 = .ok (.aload_n 0, 1) := by decide +kernel
theorem dX9_takesComparison_25 : decode cX9_takesComparison 25 = .ok (.invokevirtual 202, 3) := by decide +kernel
theorem dX9_takesComparison_28 : decode cX9_takesComparison 28 = .ok (.bipush 60, 2) := by decide +kernel
theorem dX9_takesComparison_30 : decode cX9_takesComparison 30 = .ok (.if_icmp .ne 7, 3) := by decide +kernel
theorem dX9_takesComparison_33 : decode cX9_takesComparison 33 = .ok (.iconst 0, 1) := by decide +kernel
theorem dX9_takesComparison_34 : decode cX9_takesComparison 34 = .ok (.goto 30, 3) := by decide +kernel
theorem dX9_takesComparison_37 : decode cX9_takesComparison 37 = .ok (.aload_n 0, 1) := by decide +kernel
theorem dX9_takesComparison_38 : decode cX9_takesComparison 38 = .ok (.invokevirtual 202, 3) := by decide +kernel
theorem dX9_takesComparison_41 : decode cX9_takesComparison 41 = .ok (.bipush 61, 2) := by decide +kernel
theorem dX9_takesComparison_43 : decode cX9_takesComparison 43 = .ok (.if_icmp .ne 7, 3) := by decide +kernel
theorem dX9_takesComparison_46 : decode cX9_takesComparison 46 = .ok (.iconst 1, 1) := by decide +kernel
theorem dX9_takesComparison_47 : decode cX9_takesComparison 47 = .ok (.goto 17, 3) := by decide +kernel
theorem dX9_takesComparison_50 : decode cX9_takesComparison 50 = .ok (.aload_n 0, 1) := by decide +kernel
theorem dX9_takesComparison_51 : decode cX9_takesComparison 51 = .ok (.invokevirtual 202, 3) := by decide +kernel
theorem dX9_takesComparison_54 : decode cX9_takesComparison 54 = .ok (.bipush 62, 2) := by decide +kernel
theorem dX9_takesComparison_56 : decode cX9_takesComparison 56 = .ok (.if_icmp .ne 7, 3) := by decide +kernel
theorem dX9_takesComparison_59 : decode cX9_takesComparison 59 = .ok (.iconst 2, 1) := by decide +kernel
theorem dX9_takesComparison_60 : decode cX9_takesComparison 60 = .ok (.goto 4, 3) := by decide +kernel
theorem dX9_takesComparison_63 : decode cX9_takesComparison 63 = .ok (.iconst (-1), 1) := by decide +kernel
theorem dX9_takesComparison_64 : decode cX9_takesComparison 64 = .ok (.istore_n 2, 1) := by decide +kernel
theorem dX9_takesComparison_65 : decode cX9_takesComparison 65 = .ok (.iload_n 2, 1) := by decide +kernel
theorem dX9_takesComparison_66 : decode cX9_takesComparison 66 = .ok (.ifCond .ge 5, 3) := by decide +kernel
theorem dX9_takesComparison_69 : decode cX9_takesComparison 69 = .ok (.iconst 0, 1) := by decide +kernel
theorem dX9_takesComparison_70 : decode cX9_takesComparison 70 = .ok (.ireturn, 1) := by decide +kernel
theorem dX9_takesComparison_71 : decode cX9_takesComparison 71 = .ok (.aload_n 0, 1) := by decide +kernel
theorem dX9_takesComparison_72 : decode cX9_takesComparison 72 = .ok (.dup, 1) := by decide +kernel
theorem dX9_takesComparison_73 : decode cX9_takesComparison 73 = .ok (.getfield 199, 3) := by decide +kernel
theorem dX9_takesComparison_76 : decode cX9_takesComparison 76 = .ok (.iconst 1, 1) := by decide +kernel
theorem dX9_takesComparison_77 : decode cX9_takesComparison 77 = .ok (.iadd, 1) := by decide +kernel
theorem dX9_takesComparison_78 : decode cX9_takesComparison 78 = .ok (.putfield 199, 3) := by decide +kernel
theorem dX9_takesComparison_81 : decode cX9_takesComparison 81 = .ok (.aload_n 0, 1) := by decide +kernel
theorem dX9_takesComparison_82 : decode cX9_takesComparison 82 = .ok (.invokevirtual 202, 3) := by decide +kernel
theorem dX9_takesComparison_85 : decode cX9_takesComparison 85 = .ok (.bipush 45, 2) := by decide +kernel
theorem dX9_takesComparison_87 : decode cX9_takesComparison 87 = .ok (.if_icmp .ne 7, 3) := by decide +kernel
theorem dX9_takesComparison_90 : decode cX9_takesComparison 90 = .ok (.iconst 1, 1) := by decide +kernel
theorem dX9_takesComparison_91 : decode cX9_takesComparison 91 = .ok (.goto 4, 3) := by decide +kernel
theorem dX9_takesComparison_94 : decode cX9_takesComparison 94 = .ok (.iconst 0, 1) := by decide +kernel
theorem dX9_takesComparison_95 : decode cX9_takesComparison 95 = .ok (.istore_n 3, 1) := by decide +kernel
theorem dX9_takesComparison_96 : decode cX9_takesComparison 96 = .ok (.aload_n 0, 1) := by decide +kernel
theorem dX9_takesComparison_97 : decode cX9_takesComparison 97 = .ok (.dup, 1) := by decide +kernel
theorem dX9_takesComparison_98 : decode cX9_takesComparison 98 = .ok (.getfield 199, 3) := by decide +kernel
theorem dX9_takesComparison_101 : decode cX9_takesComparison 101 = .ok (.iload_n 3, 1) := by decide +kernel
theorem dX9_takesComparison_102 : decode cX9_takesComparison 102 = .ok (.ifCond .eq 7, 3) := by decide +kernel
theorem dX9_takesComparison_105 : decode cX9_takesComparison 105 = .ok (.iconst 1, 1) := by decide +kernel
theorem dX9_takesComparison_106 : decode cX9_takesComparison 106 = .ok (.goto 4, 3) := by decide +kernel
theorem dX9_takesComparison_109 : decode cX9_takesComparison 109 = .ok (.iconst 0, 1) := by decide +kernel
theorem dX9_takesComparison_110 : decode cX9_takesComparison 110 = .ok (.iadd, 1) := by decide +kernel
theorem dX9_takesComparison_111 : decode cX9_takesComparison 111 = .ok (.putfield 199, 3) := by decide +kernel
theorem dX9_takesComparison_114 : decode cX9_takesComparison 114 = .ok (.aload_n 0, 1) := by decide +kernel
theorem dX9_takesComparison_115 : decode cX9_takesComparison 115 = .ok (.invokevirtual 218, 3) := by decide +kernel
theorem dX9_takesComparison_118 : decode cX9_takesComparison 118 = .ok (.ifCond .ne 5, 3) := by decide +kernel
theorem dX9_takesComparison_121 : decode cX9_takesComparison 121 = .ok (.iconst 0, 1) := by decide +kernel
theorem dX9_takesComparison_122 : decode cX9_takesComparison 122 = .ok (.ireturn, 1) := by decide +kernel
theorem dX9_takesComparison_123 : decode cX9_takesComparison 123 = .ok (.iconst 0, 1) := by decide +kernel
theorem dX9_takesComparison_124 : decode cX9_takesComparison 124 = .ok (.istore 4, 2) := by decide +kernel
theorem dX9_takesComparison_126 : decode cX9_takesComparison 126 = .ok (.iconst 0, 1) := by decide +kernel
theorem dX9_takesComparison_127 : decode cX9_takesComparison 127 = .ok (.istore 5, 2) := by decide +kernel
theorem dX9_takesComparison_129 : decode cX9_takesComparison 129 = .ok (.iload 5, 2) := by decide +kernel
theorem dX9_takesComparison_131 : decode cX9_takesComparison 131 = .ok (.iconst 3, 1) := by decide +kernel
theorem dX9_takesComparison_132 : decode cX9_takesComparison 132 = .ok (.if_icmp .ge 41, 3) := by decide +kernel
theorem dX9_takesComparison_135 : decode cX9_takesComparison 135 = .ok (.aload_n 0, 1) := by decide +kernel
theorem dX9_takesComparison_136 : decode cX9_takesComparison 136 = .ok (.invokevirtual 218, 3) := by decide +kernel
theorem dX9_takesComparison_139 : decode cX9_takesComparison 139 = .ok (.ifCond .eq 34, 3) := by decide +kernel
theorem dX9_takesComparison_142 : decode cX9_takesComparison 142 = .ok (.bipush 10, 2) := by decide +kernel
theorem dX9_takesComparison_144 : decode cX9_takesComparison 144 = .ok (.iload 4, 2) := by decide +kernel
theorem dX9_takesComparison_146 : decode cX9_takesComparison 146 = .ok (.imul, 1) := by decide +kernel
theorem dX9_takesComparison_147 : decode cX9_takesComparison 147 = .ok (.aload_n 0, 1) := by decide +kernel
theorem dX9_takesComparison_148 : decode cX9_takesComparison 148 = .ok (.invokevirtual 202, 3) := by decide +kernel
theorem dX9_takesComparison_151 : decode cX9_takesComparison 151 = .ok (.iadd, 1) := by decide +kernel
theorem dX9_takesComparison_152 : decode cX9_takesComparison 152 = .ok (.bipush 48, 2) := by decide +kernel
theorem dX9_takesComparison_154 : decode cX9_takesComparison 154 = .ok (.isub, 1) := by decide +kernel
theorem dX9_takesComparison_155 : decode cX9_takesComparison 155 = .ok (.istore 4, 2) := by decide +kernel
theorem dX9_takesComparison_157 : decode cX9_takesComparison 157 = .ok (.aload_n 0, 1) := by decide +kernel
theorem dX9_takesComparison_158 : decode cX9_takesComparison 158 = .ok (.dup, 1) := by decide +kernel
theorem dX9_takesComparison_159 : decode cX9_takesComparison 159 = .ok (.getfield 199, 3) := by decide +kernel
theorem dX9_takesComparison_162 : decode cX9_takesComparison 162 = .ok (.iconst 1, 1) := by decide +kernel
theorem dX9_takesComparison_163 : decode cX9_takesComparison 163 = .ok (.iadd, 1) := by decide +kernel
theorem dX9_takesComparison_164 : decode cX9_takesComparison 164 = .ok (.putfield 199, 3) := by decide +kernel
theorem dX9_takesComparison_167 : decode cX9_takesComparison 167 = .ok (.iinc 5 1, 3) := by decide +kernel
theorem dX9_takesComparison_170 : decode cX9_takesComparison 170 = .ok (.goto (-41), 3) := by decide +kernel
theorem dX9_takesComparison_173 : decode cX9_takesComparison 173 = .ok (.aload_n 0, 1) := by decide +kernel
theorem dX9_takesComparison_174 : decode cX9_takesComparison 174 = .ok (.bipush 10, 2) := by decide +kernel
theorem dX9_takesComparison_176 : decode cX9_takesComparison 176 = .ok (.sipush 6000, 3) := by decide +kernel
theorem dX9_takesComparison_179 : decode cX9_takesComparison 179 = .ok (.iload_n 1, 1) := by decide +kernel
theorem dX9_takesComparison_180 : decode cX9_takesComparison 180 = .ok (.imul, 1) := by decide +kernel
theorem dX9_takesComparison_181 : decode cX9_takesComparison 181 = .ok (.iadd, 1) := by decide +kernel
theorem dX9_takesComparison_182 : decode cX9_takesComparison 182 = .ok (.sipush 2000, 3) := by decide +kernel
theorem dX9_takesComparison_185 : decode cX9_takesComparison 185 = .ok (.iload_n 2, 1) := by decide +kernel
theorem dX9_takesComparison_186 : decode cX9_takesComparison 186 = .ok (.imul, 1) := by decide +kernel
theorem dX9_takesComparison_187 : decode cX9_takesComparison 187 = .ok (.iadd, 1) := by decide +kernel
theorem dX9_takesComparison_188 : decode cX9_takesComparison 188 = .ok (.iload_n 3, 1) := by decide +kernel
theorem dX9_takesComparison_189 : decode cX9_takesComparison 189 = .ok (.ifCond .eq 9, 3) := by decide +kernel
theorem dX9_takesComparison_192 : decode cX9_takesComparison 192 = .ok (.iload 4, 2) := by decide +kernel
theorem dX9_takesComparison_194 : decode cX9_takesComparison 194 = .ok (.ineg, 1) := by decide +kernel
theorem dX9_takesComparison_195 : decode cX9_takesComparison 195 = .ok (.goto 5, 3) := by decide +kernel
theorem dX9_takesComparison_198 : decode cX9_takesComparison 198 = .ok (.iload 4, 2) := by decide +kernel
theorem dX9_takesComparison_200 : decode cX9_takesComparison 200 = .ok (.iadd, 1) := by decide +kernel
theorem dX9_takesComparison_201 : decode cX9_takesComparison 201 = .ok (.sipush 999, 3) := by decide +kernel
theorem dX9_takesComparison_204 : decode cX9_takesComparison 204 = .ok (.iadd, 1) := by decide +kernel
theorem dX9_takesComparison_205 : decode cX9_takesComparison 205 = .ok (.invokevirtual 211, 3) := by decide +kernel
theorem dX9_takesComparison_208 : decode cX9_takesComparison 208 = .ok (.iconst 1, 1) := by decide +kernel
theorem dX9_takesComparison_209 : decode cX9_takesComparison 209 = .ok (.ireturn, 1) := by decide +kernel
theorem dX9_takesFactor_0 : decode cX9_takesFactor 0 = .ok (.aload_n 0, 1) := by decide +kernel
theorem dX9_takesFactor_1 : decode cX9_takesFactor 1 = .ok (.invokevirtual 202, 3) := by decide +kernel
theorem dX9_takesFactor_4 : decode cX9_takesFactor 4 = .ok (.bipush 33, 2) := by decide +kernel
theorem dX9_takesFactor_6 : decode cX9_takesFactor 6 = .ok (.if_icmp .eq 12, 3) := by decide +kernel
theorem dX9_takesFactor_9 : decode cX9_takesFactor 9 = .ok (.aload_n 0, 1) := by decide +kernel
theorem dX9_takesFactor_10 : decode cX9_takesFactor 10 = .ok (.invokevirtual 202, 3) := by decide +kernel
theorem dX9_takesFactor_13 : decode cX9_takesFactor 13 = .ok (.bipush 40, 2) := by decide +kernel
theorem dX9_takesFactor_15 : decode cX9_takesFactor 15 = .ok (.if_icmp .ne 72, 3) := by decide +kernel
theorem dX9_takesFactor_18 : decode cX9_takesFactor 18 = .ok (.aload_n 0, 1) := by decide +kernel
theorem dX9_takesFactor_19 : decode cX9_takesFactor 19 = .ok (.dup, 1) := by decide +kernel
theorem dX9_takesFactor_20 : decode cX9_takesFactor 20 = .ok (.getfield 222, 3) := by decide +kernel
theorem dX9_takesFactor_23 : decode cX9_takesFactor 23 = .ok (.aload_n 0, 1) := by decide +kernel
theorem dX9_takesFactor_24 : decode cX9_takesFactor 24 = .ok (.invokevirtual 202, 3) := by decide +kernel
theorem dX9_takesFactor_27 : decode cX9_takesFactor 27 = .ok (.bipush 40, 2) := by decide +kernel
theorem dX9_takesFactor_29 : decode cX9_takesFactor 29 = .ok (.if_icmp .ne 7, 3) := by decide +kernel
theorem dX9_takesFactor_32 : decode cX9_takesFactor 32 = .ok (.iconst 1, 1) := by decide +kernel
theorem dX9_takesFactor_33 : decode cX9_takesFactor 33 = .ok (.goto 4, 3) := by decide +kernel
theorem dX9_takesFactor_36 : decode cX9_takesFactor 36 = .ok (.iconst 0, 1) := by decide +kernel
theorem dX9_takesFactor_37 : decode cX9_takesFactor 37 = .ok (.iadd, 1) := by decide +kernel
theorem dX9_takesFactor_38 : decode cX9_takesFactor 38 = .ok (.putfield 222, 3) := by decide +kernel
theorem dX9_takesFactor_41 : decode cX9_takesFactor 41 = .ok (.aload_n 0, 1) := by decide +kernel
theorem dX9_takesFactor_42 : decode cX9_takesFactor 42 = .ok (.getfield 22, 3) := by decide +kernel
theorem dX9_takesFactor_45 : decode cX9_takesFactor 45 = .ok (.aload_n 0, 1) := by decide +kernel
theorem dX9_takesFactor_46 : decode cX9_takesFactor 46 = .ok (.getfield 208, 3) := by decide +kernel
theorem dX9_takesFactor_49 : decode cX9_takesFactor 49 = .ok (.aload_n 0, 1) := by decide +kernel
theorem dX9_takesFactor_50 : decode cX9_takesFactor 50 = .ok (.invokevirtual 202, 3) := by decide +kernel
theorem dX9_takesFactor_53 : decode cX9_takesFactor 53 = .ok (.bipush 33, 2) := by decide +kernel
theorem dX9_takesFactor_55 : decode cX9_takesFactor 55 = .ok (.if_icmp .ne 7, 3) := by decide +kernel
theorem dX9_takesFactor_58 : decode cX9_takesFactor 58 = .ok (.iconst 1, 1) := by decide +kernel
theorem dX9_takesFactor_59 : decode cX9_takesFactor 59 = .ok (.goto 4, 3) := by decide +kernel
theorem dX9_takesFactor_62 : decode cX9_takesFactor 62 = .ok (.iconst 4, 1) := by decide +kernel
theorem dX9_takesFactor_63 : decode cX9_takesFactor 63 = .ok (.iastore, 1) := by decide +kernel
theorem dX9_takesFactor_64 : decode cX9_takesFactor 64 = .ok (.aload_n 0, 1) := by decide +kernel
theorem dX9_takesFactor_65 : decode cX9_takesFactor 65 = .ok (.dup, 1) := by decide +kernel
theorem dX9_takesFactor_66 : decode cX9_takesFactor 66 = .ok (.getfield 208, 3) := by decide +kernel
theorem dX9_takesFactor_69 : decode cX9_takesFactor 69 = .ok (.iconst 1, 1) := by decide +kernel
theorem dX9_takesFactor_70 : decode cX9_takesFactor 70 = .ok (.iadd, 1) := by decide +kernel
theorem dX9_takesFactor_71 : decode cX9_takesFactor 71 = .ok (.putfield 208, 3) := by decide +kernel
theorem dX9_takesFactor_74 : decode cX9_takesFactor 74 = .ok (.aload_n 0, 1) := by decide +kernel
theorem dX9_takesFactor_75 : decode cX9_takesFactor 75 = .ok (.dup, 1) := by decide +kernel
theorem dX9_takesFactor_76 : decode cX9_takesFactor 76 = .ok (.getfield 199, 3) := by decide +kernel
theorem dX9_takesFactor_79 : decode cX9_takesFactor 79 = .ok (.iconst 1, 1) := by decide +kernel
theorem dX9_takesFactor_80 : decode cX9_takesFactor 80 = .ok (.iadd, 1) := by decide +kernel
theorem dX9_takesFactor_81 : decode cX9_takesFactor 81 = .ok (.putfield 199, 3) := by decide +kernel
theorem dX9_takesFactor_84 : decode cX9_takesFactor 84 = .ok (.goto (-84), 3) := by decide +kernel
theorem dX9_takesFactor_87 : decode cX9_takesFactor 87 = .ok (.aload_n 0, 1) := by decide +kernel
theorem dX9_takesFactor_88 : decode cX9_takesFactor 88 = .ok (.invokevirtual 225, 3) := by decide +kernel
theorem dX9_takesFactor_91 : decode cX9_takesFactor 91 = .ok (.ifCond .ne 5, 3) := by decide +kernel
theorem dX9_takesFactor_94 : decode cX9_takesFactor 94 = .ok (.iconst 0, 1) := by decide +kernel
theorem dX9_takesFactor_95 : decode cX9_takesFactor 95 = .ok (.ireturn, 1) := by decide +kernel
theorem dX9_takesFactor_96 : decode cX9_takesFactor 96 = .ok (.aload_n 0, 1) := by decide +kernel
theorem dX9_takesFactor_97 : decode cX9_takesFactor 97 = .ok (.iconst 1, 1) := by decide +kernel
theorem dX9_takesFactor_98 : decode cX9_takesFactor 98 = .ok (.invokevirtual 228, 3) := by decide +kernel
theorem dX9_takesFactor_101 : decode cX9_takesFactor 101 = .ok (.aload_n 0, 1) := by decide +kernel
theorem dX9_takesFactor_102 : decode cX9_takesFactor 102 = .ok (.invokevirtual 202, 3) := by decide +kernel
theorem dX9_takesFactor_105 : decode cX9_takesFactor 105 = .ok (.bipush 41, 2) := by decide +kernel
theorem dX9_takesFactor_107 : decode cX9_takesFactor 107 = .ok (.if_icmp .ne 53, 3) := by decide +kernel
theorem dX9_takesFactor_110 : decode cX9_takesFactor 110 = .ok (.aload_n 0, 1) := by decide +kernel
theorem dX9_takesFactor_111 : decode cX9_takesFactor 111 = .ok (.getfield 222, 3) := by decide +kernel
theorem dX9_takesFactor_114 : decode cX9_takesFactor 114 = .ok (.ifCond .le 46, 3) := by decide +kernel
theorem dX9_takesFactor_117 : decode cX9_takesFactor 117 = .ok (.aload_n 0, 1) := by decide +kernel
theorem dX9_takesFactor_118 : decode cX9_takesFactor 118 = .ok (.iconst 3, 1) := by decide +kernel
theorem dX9_takesFactor_119 : decode cX9_takesFactor 119 = .ok (.invokevirtual 228, 3) := by decide +kernel
theorem dX9_takesFactor_122 : decode cX9_takesFactor 122 = .ok (.aload_n 0, 1) := by decide +kernel
theorem dX9_takesFactor_123 : decode cX9_takesFactor 123 = .ok (.dup, 1) := by decide +kernel
theorem dX9_takesFactor_124 : decode cX9_takesFactor 124 = .ok (.getfield 208, 3) := by decide +kernel
theorem dX9_takesFactor_127 : decode cX9_takesFactor 127 = .ok (.iconst 1, 1) := by decide +kernel
theorem dX9_takesFactor_128 : decode cX9_takesFactor 128 = .ok (.isub, 1) := by decide +kernel
theorem dX9_takesFactor_129 : decode cX9_takesFactor 129 = .ok (.putfield 208, 3) := by decide +kernel
theorem dX9_takesFactor_132 : decode cX9_takesFactor 132 = .ok (.aload_n 0, 1) := by decide +kernel
theorem dX9_takesFactor_133 : decode cX9_takesFactor 133 = .ok (.dup, 1) := by decide +kernel
theorem dX9_takesFactor_134 : decode cX9_takesFactor 134 = .ok (.getfield 222, 3) := by decide +kernel
theorem dX9_takesFactor_137 : decode cX9_takesFactor 137 = .ok (.iconst 1, 1) := by decide +kernel
theorem dX9_takesFactor_138 : decode cX9_takesFactor 138 = .ok (.isub, 1) := by decide +kernel
theorem dX9_takesFactor_139 : decode cX9_takesFactor 139 = .ok (.putfield 222, 3) := by decide +kernel
theorem dX9_takesFactor_142 : decode cX9_takesFactor 142 = .ok (.aload_n 0, 1) := by decide +kernel
theorem dX9_takesFactor_143 : decode cX9_takesFactor 143 = .ok (.iconst 1, 1) := by decide +kernel
theorem dX9_takesFactor_144 : decode cX9_takesFactor 144 = .ok (.invokevirtual 228, 3) := by decide +kernel
theorem dX9_takesFactor_147 : decode cX9_takesFactor 147 = .ok (.aload_n 0, 1) := by decide +kernel
theorem dX9_takesFactor_148 : decode cX9_takesFactor 148 = .ok (.dup, 1) := by decide +kernel
theorem dX9_takesFactor_149 : decode cX9_takesFactor 149 = .ok (.getfield 199, 3) := by decide +kernel
theorem dX9_takesFactor_152 : decode cX9_takesFactor 152 = .ok (.iconst 1, 1) := by decide +kernel
theorem dX9_takesFactor_153 : decode cX9_takesFactor 153 = .ok (.iadd, 1) := by decide +kernel
theorem dX9_takesFactor_154 : decode cX9_takesFactor 154 = .ok (.putfield 199, 3) := by decide +kernel
theorem dX9_takesFactor_157 : decode cX9_takesFactor 157 = .ok (.goto (-56), 3) := by decide +kernel
theorem dX9_takesFactor_160 : decode cX9_takesFactor 160 = .ok (.iconst 1, 1) := by decide +kernel
theorem dX9_takesFactor_161 : decode cX9_takesFactor 161 = .ok (.ireturn, 1) := by decide +kernel
theorem dX9_takesText_0 : decode cX9_takesText 0 = .ok (.aload_n 0, 1) := by decide +kernel
theorem dX9_takesText_1 : decode cX9_takesText 1 = .ok (.iconst 0, 1) := by decide +kernel
theorem dX9_takesText_2 : decode cX9_takesText 2 = .ok (.putfield 199, 3) := by decide +kernel
theorem dX9_takesText_5 : decode cX9_takesText 5 = .ok (.aload_n 0, 1) := by decide +kernel
theorem dX9_takesText_6 : decode cX9_takesText 6 = .ok (.iconst 0, 1) := by decide +kernel
theorem dX9_takesText_7 : decode cX9_takesText 7 = .ok (.putfield 205, 3) := by decide +kernel
theorem dX9_takesText_10 : decode cX9_takesText 10 = .ok (.aload_n 0, 1) := by decide +kernel
theorem dX9_takesText_11 : decode cX9_takesText 11 = .ok (.iconst 0, 1) := by decide +kernel
theorem dX9_takesText_12 : decode cX9_takesText 12 = .ok (.putfield 208, 3) := by decide +kernel
theorem dX9_takesText_15 : decode cX9_takesText 15 = .ok (.aload_n 0, 1) := by decide +kernel
theorem dX9_takesText_16 : decode cX9_takesText 16 = .ok (.iconst 0, 1) := by decide +kernel
theorem dX9_takesText_17 : decode cX9_takesText 17 = .ok (.putfield 222, 3) := by decide +kernel
theorem dX9_takesText_20 : decode cX9_takesText 20 = .ok (.aload_n 0, 1) := by decide +kernel
theorem dX9_takesText_21 : decode cX9_takesText 21 = .ok (.invokevirtual 231, 3) := by decide +kernel
theorem dX9_takesText_24 : decode cX9_takesText 24 = .ok (.ifCond .eq 102, 3) := by decide +kernel
theorem dX9_takesText_27 : decode cX9_takesText 27 = .ok (.aload_n 0, 1) := by decide +kernel
theorem dX9_takesText_28 : decode cX9_takesText 28 = .ok (.invokevirtual 202, 3) := by decide +kernel
theorem dX9_takesText_31 : decode cX9_takesText 31 = .ok (.bipush 38, 2) := by decide +kernel
theorem dX9_takesText_33 : decode cX9_takesText 33 = .ok (.if_icmp .ne 7, 3) := by decide +kernel
theorem dX9_takesText_36 : decode cX9_takesText 36 = .ok (.iconst 2, 1) := by decide +kernel
theorem dX9_takesText_37 : decode cX9_takesText 37 = .ok (.goto 17, 3) := by decide +kernel
theorem dX9_takesText_40 : decode cX9_takesText 40 = .ok (.aload_n 0, 1) := by decide +kernel
theorem dX9_takesText_41 : decode cX9_takesText 41 = .ok (.invokevirtual 202, 3) := by decide +kernel
theorem dX9_takesText_44 : decode cX9_takesText 44 = .ok (.bipush 124, 2) := by decide +kernel
theorem dX9_takesText_46 : decode cX9_takesText 46 = .ok (.if_icmp .ne 7, 3) := by decide +kernel
theorem dX9_takesText_49 : decode cX9_takesText 49 = .ok (.iconst 3, 1) := by decide +kernel
theorem dX9_takesText_50 : decode cX9_takesText 50 = .ok (.goto 4, 3) := by decide +kernel
theorem dX9_takesText_53 : decode cX9_takesText 53 = .ok (.iconst 0, 1) := by decide +kernel
theorem dX9_takesText_54 : decode cX9_takesText 54 = .ok (.istore_n 1, 1) := by decide +kernel
theorem dX9_takesText_55 : decode cX9_takesText 55 = .ok (.iload_n 1, 1) := by decide +kernel
theorem dX9_takesText_56 : decode cX9_takesText 56 = .ok (.ifCond .ne 32, 3) := by decide +kernel
theorem dX9_takesText_59 : decode cX9_takesText 59 = .ok (.aload_n 0, 1) := by decide +kernel
theorem dX9_takesText_60 : decode cX9_takesText 60 = .ok (.iconst 3, 1) := by decide +kernel
theorem dX9_takesText_61 : decode cX9_takesText 61 = .ok (.invokevirtual 228, 3) := by decide +kernel
theorem dX9_takesText_64 : decode cX9_takesText 64 = .ok (.aload_n 0, 1) := by decide +kernel
theorem dX9_takesText_65 : decode cX9_takesText 65 = .ok (.getfield 199, 3) := by decide +kernel
theorem dX9_takesText_68 : decode cX9_takesText 68 = .ok (.aload_n 0, 1) := by decide +kernel
theorem dX9_takesText_69 : decode cX9_takesText 69 = .ok (.getfield 196, 3) := by decide +kernel
theorem dX9_takesText_72 : decode cX9_takesText 72 = .ok (.if_icmp .ne 14, 3) := by decide +kernel
theorem dX9_takesText_75 : decode cX9_takesText 75 = .ok (.aload_n 0, 1) := by decide +kernel
theorem dX9_takesText_76 : decode cX9_takesText 76 = .ok (.getfield 222, 3) := by decide +kernel
theorem dX9_takesText_79 : decode cX9_takesText 79 = .ok (.ifCond .ne 7, 3) := by decide +kernel
theorem dX9_takesText_82 : decode cX9_takesText 82 = .ok (.iconst 1, 1) := by decide +kernel
theorem dX9_takesText_83 : decode cX9_takesText 83 = .ok (.goto 4, 3) := by decide +kernel
theorem dX9_takesText_86 : decode cX9_takesText 86 = .ok (.iconst 0, 1) := by decide +kernel
theorem dX9_takesText_87 : decode cX9_takesText 87 = .ok (.ireturn, 1) := by decide +kernel
theorem dX9_takesText_88 : decode cX9_takesText 88 = .ok (.aload_n 0, 1) := by decide +kernel
theorem dX9_takesText_89 : decode cX9_takesText 89 = .ok (.iload_n 1, 1) := by decide +kernel
theorem dX9_takesText_90 : decode cX9_takesText 90 = .ok (.invokevirtual 228, 3) := by decide +kernel
theorem dX9_takesText_93 : decode cX9_takesText 93 = .ok (.aload_n 0, 1) := by decide +kernel
theorem dX9_takesText_94 : decode cX9_takesText 94 = .ok (.getfield 22, 3) := by decide +kernel
theorem dX9_takesText_97 : decode cX9_takesText 97 = .ok (.aload_n 0, 1) := by decide +kernel
theorem dX9_takesText_98 : decode cX9_takesText 98 = .ok (.getfield 208, 3) := by decide +kernel
theorem dX9_takesText_101 : decode cX9_takesText 101 = .ok (.iload_n 1, 1) := by decide +kernel
theorem dX9_takesText_102 : decode cX9_takesText 102 = .ok (.iastore, 1) := by decide +kernel
theorem dX9_takesText_103 : decode cX9_takesText 103 = .ok (.aload_n 0, 1) := by decide +kernel
theorem dX9_takesText_104 : decode cX9_takesText 104 = .ok (.dup, 1) := by decide +kernel
theorem dX9_takesText_105 : decode cX9_takesText 105 = .ok (.getfield 208, 3) := by decide +kernel
theorem dX9_takesText_108 : decode cX9_takesText 108 = .ok (.iconst 1, 1) := by decide +kernel
theorem dX9_takesText_109 : decode cX9_takesText 109 = .ok (.iadd, 1) := by decide +kernel
theorem dX9_takesText_110 : decode cX9_takesText 110 = .ok (.putfield 208, 3) := by decide +kernel
theorem dX9_takesText_113 : decode cX9_takesText 113 = .ok (.aload_n 0, 1) := by decide +kernel
theorem dX9_takesText_114 : decode cX9_takesText 114 = .ok (.dup, 1) := by decide +kernel
theorem dX9_takesText_115 : decode cX9_takesText 115 = .ok (.getfield 199, 3) := by decide +kernel
theorem dX9_takesText_118 : decode cX9_takesText 118 = .ok (.iconst 1, 1) := by decide +kernel
theorem dX9_takesText_119 : decode cX9_takesText 119 = .ok (.iadd, 1) := by decide +kernel
theorem dX9_takesText_120 : decode cX9_takesText 120 = .ok (.putfield 199, 3) := by decide +kernel
theorem dX9_takesText_123 : decode cX9_takesText 123 = .ok (.goto (-103), 3) := by decide +kernel
theorem dX9_takesText_126 : decode cX9_takesText 126 = .ok (.iconst 0, 1) := by decide +kernel
theorem dX9_takesText_127 : decode cX9_takesText 127 = .ok (.ireturn, 1) := by decide +kernel
theorem dX9_setFilter_0 : decode cX9_setFilter 0 = .ok (.aload_n 0, 1) := by decide +kernel
theorem dX9_setFilter_1 : decode cX9_setFilter 1 = .ok (.invokevirtual 234, 3) := by decide +kernel
theorem dX9_setFilter_4 : decode cX9_setFilter 4 = .ok (.istore_n 1, 1) := by decide +kernel
theorem dX9_setFilter_5 : decode cX9_setFilter 5 = .ok (.aload_n 0, 1) := by decide +kernel
theorem dX9_setFilter_6 : decode cX9_setFilter 6 = .ok (.iconst 0, 1) := by decide +kernel
theorem dX9_setFilter_7 : decode cX9_setFilter 7 = .ok (.putfield 196, 3) := by decide +kernel
theorem dX9_setFilter_10 : decode cX9_setFilter 10 = .ok (.aload_n 0, 1) := by decide +kernel
theorem dX9_setFilter_11 : decode cX9_setFilter 11 = .ok (.iload_n 1, 1) := by decide +kernel
theorem dX9_setFilter_12 : decode cX9_setFilter 12 = .ok (.ifCond .eq 7, 3) := by decide +kernel
theorem dX9_setFilter_15 : decode cX9_setFilter 15 = .ok (.iconst (-1), 1) := by decide +kernel
theorem dX9_setFilter_16 : decode cX9_setFilter 16 = .ok (.goto 7, 3) := by decide +kernel
theorem dX9_setFilter_19 : decode cX9_setFilter 19 = .ok (.aload_n 0, 1) := by decide +kernel
theorem dX9_setFilter_20 : decode cX9_setFilter 20 = .ok (.getfield 199, 3) := by decide +kernel
theorem dX9_setFilter_23 : decode cX9_setFilter 23 = .ok (.putfield 60, 3) := by decide +kernel
theorem dX9_setFilter_26 : decode cX9_setFilter 26 = .ok (.iload_n 1, 1) := by decide +kernel
theorem dX9_setFilter_27 : decode cX9_setFilter 27 = .ok (.ifCond .ne 9, 3) := by decide +kernel
theorem dX9_setFilter_30 : decode cX9_setFilter 30 = .ok (.aload_n 0, 1) := by decide +kernel
theorem dX9_setFilter_31 : decode cX9_setFilter 31 = .ok (.iconst 1, 1) := by decide +kernel
theorem dX9_setFilter_32 : decode cX9_setFilter 32 = .ok (.invokevirtual 74, 3) := by decide +kernel
theorem dX9_setFilter_35 : decode cX9_setFilter 35 = .ok (.ireturn, 1) := by decide +kernel
theorem dX9_setFilter_36 : decode cX9_setFilter 36 = .ok (.aload_n 0, 1) := by decide +kernel
theorem dX9_setFilter_37 : decode cX9_setFilter 37 = .ok (.iconst 0, 1) := by decide +kernel
theorem dX9_setFilter_38 : decode cX9_setFilter 38 = .ok (.putfield 64, 3) := by decide +kernel
theorem dX9_setFilter_41 : decode cX9_setFilter 41 = .ok (.aload_n 0, 1) := by decide +kernel
theorem dX9_setFilter_42 : decode cX9_setFilter 42 = .ok (.aload_n 0, 1) := by decide +kernel
theorem dX9_setFilter_43 : decode cX9_setFilter 43 = .ok (.getfield 205, 3) := by decide +kernel
theorem dX9_setFilter_46 : decode cX9_setFilter 46 = .ok (.putfield 122, 3) := by decide +kernel
theorem dX9_setFilter_49 : decode cX9_setFilter 49 = .ok (.iconst 0, 1) := by decide +kernel
theorem dX9_setFilter_50 : decode cX9_setFilter 50 = .ok (.istore_n 2, 1) := by decide +kernel
theorem dX9_setFilter_51 : decode cX9_setFilter 51 = .ok (.iload_n 2, 1) := by decide +kernel
theorem dX9_setFilter_52 : decode cX9_setFilter 52 = .ok (.aload_n 0, 1) := by decide +kernel
theorem dX9_setFilter_53 : decode cX9_setFilter 53 = .ok (.getfield 205, 3) := by decide +kernel
theorem dX9_setFilter_56 : decode cX9_setFilter 56 = .ok (.if_icmp .ge 21, 3) := by decide +kernel
theorem dX9_setFilter_59 : decode cX9_setFilter 59 = .ok (.aload_n 0, 1) := by decide +kernel
theorem dX9_setFilter_60 : decode cX9_setFilter 60 = .ok (.getfield 16, 3) := by decide +kernel
theorem dX9_setFilter_63 : decode cX9_setFilter 63 = .ok (.iload_n 2, 1) := by decide +kernel
theorem dX9_setFilter_64 : decode cX9_setFilter 64 = .ok (.aload_n 0, 1) := by decide +kernel
theorem dX9_setFilter_65 : decode cX9_setFilter 65 = .ok (.getfield 19, 3) := by decide +kernel
theorem dX9_setFilter_68 : decode cX9_setFilter 68 = .ok (.iload_n 2, 1) := by decide +kernel
theorem dX9_setFilter_69 : decode cX9_setFilter 69 = .ok (.iaload, 1) := by decide +kernel
theorem dX9_setFilter_70 : decode cX9_setFilter 70 = .ok (.iastore, 1) := by decide +kernel
theorem dX9_setFilter_71 : decode cX9_setFilter 71 = .ok (.iinc 2 1, 3) := by decide +kernel
theorem dX9_setFilter_74 : decode cX9_setFilter 74 = .ok (.goto (-23), 3) := by decide +kernel
theorem dX9_setFilter_77 : decode cX9_setFilter 77 = .ok (.aload_n 0, 1) := by decide +kernel
theorem dX9_setFilter_78 : decode cX9_setFilter 78 = .ok (.iconst 0, 1) := by decide +kernel
theorem dX9_setFilter_79 : decode cX9_setFilter 79 = .ok (.iconst 4, 1) := by decide +kernel
theorem dX9_setFilter_80 : decode cX9_setFilter 80 = .ok (.invokevirtual 109, 3) := by decide +kernel
theorem dX9_setFilter_83 : decode cX9_setFilter 83 = .ok (.aload_n 0, 1) := by decide +kernel
theorem dX9_setFilter_84 : decode cX9_setFilter 84 = .ok (.invokevirtual 157, 3) := by decide +kernel
theorem dX9_setFilter_87 : decode cX9_setFilter 87 = .ok (.ireturn, 1) := by decide +kernel
theorem dX9_faultPosition_0 : decode cX9_faultPosition 0 = .ok (.aload_n 0, 1) := by decide +kernel
theorem dX9_faultPosition_1 : decode cX9_faultPosition 1 = .ok (.iconst 0, 1) := by decide +kernel
theorem dX9_faultPosition_2 : decode cX9_faultPosition 2 = .ok (.putfield 64, 3) := by decide +kernel
theorem dX9_faultPosition_5 : decode cX9_faultPosition 5 = .ok (.aload_n 0, 1) := by decide +kernel
theorem dX9_faultPosition_6 : decode cX9_faultPosition 6 = .ok (.getfield 60, 3) := by decide +kernel
theorem dX9_faultPosition_9 : decode cX9_faultPosition 9 = .ok (.ireturn, 1) := by decide +kernel
theorem dX9_clearFilter_0 : decode cX9_clearFilter 0 = .ok (.aload_n 0, 1) := by decide +kernel
theorem dX9_clearFilter_1 : decode cX9_clearFilter 1 = .ok (.iconst 0, 1) := by decide +kernel
theorem dX9_clearFilter_2 : decode cX9_clearFilter 2 = .ok (.putfield 64, 3) := by decide +kernel
theorem dX9_clearFilter_5 : decode cX9_clearFilter 5 = .ok (.aload_n 0, 1) := by decide +kernel
theorem dX9_clearFilter_6 : decode cX9_clearFilter 6 = .ok (.iconst 0, 1) := by decide +kernel
theorem dX9_clearFilter_7 : decode cX9_clearFilter 7 = .ok (.putfield 122, 3) := by decide +kernel
theorem dX9_clearFilter_10 : decode cX9_clearFilter 10 = .ok (.aload_n 0, 1) := by decide +kernel
theorem dX9_clearFilter_11 : decode cX9_clearFilter 11 = .ok (.iconst 0, 1) := by decide +kernel
theorem dX9_clearFilter_12 : decode cX9_clearFilter 12 = .ok (.iconst 4, 1) := by decide +kernel
theorem dX9_clearFilter_13 : decode cX9_clearFilter 13 = .ok (.invokevirtual 109, 3) := by decide +kernel
theorem dX9_clearFilter_16 : decode cX9_clearFilter 16 = .ok (.return_, 1) := by decide +kernel
theorem dX9_accepts_0 : decode cX9_accepts 0 = .ok (.iload_n 1, 1) := by decide +kernel
theorem dX9_accepts_1 : decode cX9_accepts 1 = .ok (.iload_n 2, 1) := by decide +kernel
theorem dX9_accepts_2 : decode cX9_accepts 2 = .ok (.iload_n 3, 1) := by decide +kernel
theorem dX9_accepts_3 : decode cX9_accepts 3 = .ok (.invokestatic 89, 3) := by decide +kernel
theorem dX9_accepts_6 : decode cX9_accepts 6 = .ok (.ifCond .eq 12, 3) := by decide +kernel
theorem dX9_accepts_9 : decode cX9_accepts 9 = .ok (.iload_n 1, 1) := by decide +kernel
theorem dX9_accepts_10 : decode cX9_accepts 10 = .ok (.iload 4, 2) := by decide +kernel
theorem dX9_accepts_12 : decode cX9_accepts 12 = .ok (.invokestatic 102, 3) := by decide +kernel
theorem dX9_accepts_15 : decode cX9_accepts 15 = .ok (.ifCond .ne 9, 3) := by decide +kernel
theorem dX9_accepts_18 : decode cX9_accepts 18 = .ok (.aload_n 0, 1) := by decide +kernel
theorem dX9_accepts_19 : decode cX9_accepts 19 = .ok (.iconst 1, 1) := by decide +kernel
theorem dX9_accepts_20 : decode cX9_accepts 20 = .ok (.invokevirtual 190, 3) := by decide +kernel
theorem dX9_accepts_23 : decode cX9_accepts 23 = .ok (.ireturn, 1) := by decide +kernel
theorem dX9_accepts_24 : decode cX9_accepts 24 = .ok (.aload_n 0, 1) := by decide +kernel
theorem dX9_accepts_25 : decode cX9_accepts 25 = .ok (.iconst 0, 1) := by decide +kernel
theorem dX9_accepts_26 : decode cX9_accepts 26 = .ok (.putfield 64, 3) := by decide +kernel
theorem dX9_accepts_29 : decode cX9_accepts 29 = .ok (.aload_n 0, 1) := by decide +kernel
theorem dX9_accepts_30 : decode cX9_accepts 30 = .ok (.iload_n 1, 1) := by decide +kernel
theorem dX9_accepts_31 : decode cX9_accepts 31 = .ok (.iload_n 2, 1) := by decide +kernel
theorem dX9_accepts_32 : decode cX9_accepts 32 = .ok (.iload_n 3, 1) := by decide +kernel
theorem dX9_accepts_33 : decode cX9_accepts 33 = .ok (.iload 4, 2) := by decide +kernel
theorem dX9_accepts_35 : decode cX9_accepts 35 = .ok (.invokevirtual 129, 3) := by decide +kernel
theorem dX9_accepts_38 : decode cX9_accepts 38 = .ok (.ireturn, 1) := by decide +kernel
theorem dX9_save_0 : decode cX9_save 0 = .ok (.aload_n 0, 1) := by decide +kernel
theorem dX9_save_1 : decode cX9_save 1 = .ok (.iconst 0, 1) := by decide +kernel
theorem dX9_save_2 : decode cX9_save 2 = .ok (.putfield 64, 3) := by decide +kernel
theorem dX9_save_5 : decode cX9_save 5 = .ok (.aload_n 0, 1) := by decide +kernel
theorem dX9_save_6 : decode cX9_save 6 = .ok (.iconst 1, 1) := by decide +kernel
theorem dX9_save_7 : decode cX9_save 7 = .ok (.putfield 237, 3) := by decide +kernel
theorem dX9_save_10 : decode cX9_save 10 = .ok (.aload_n 0, 1) := by decide +kernel
theorem dX9_save_11 : decode cX9_save 11 = .ok (.iconst 0, 1) := by decide +kernel
theorem dX9_save_12 : decode cX9_save 12 = .ok (.bipush 14, 2) := by decide +kernel
theorem dX9_save_14 : decode cX9_save 14 = .ok (.invokevirtual 109, 3) := by decide +kernel
theorem dX9_save_17 : decode cX9_save 17 = .ok (.aload_n 0, 1) := by decide +kernel
theorem dX9_save_18 : decode cX9_save 18 = .ok (.aload_n 0, 1) := by decide +kernel
theorem dX9_save_19 : decode cX9_save 19 = .ok (.getfield 122, 3) := by decide +kernel
theorem dX9_save_22 : decode cX9_save 22 = .ok (.putfield 240, 3) := by decide +kernel
theorem dX9_save_25 : decode cX9_save 25 = .ok (.aload_n 0, 1) := by decide +kernel
theorem dX9_save_26 : decode cX9_save 26 = .ok (.aload_n 0, 1) := by decide +kernel
theorem dX9_save_27 : decode cX9_save 27 = .ok (.getfield 187, 3) := by decide +kernel
theorem dX9_save_30 : decode cX9_save 30 = .ok (.putfield 243, 3) := by decide +kernel
theorem dX9_save_33 : decode cX9_save 33 = .ok (.iconst 0, 1) := by decide +kernel
theorem dX9_save_34 : decode cX9_save 34 = .ok (.istore_n 1, 1) := by decide +kernel
theorem dX9_save_35 : decode cX9_save 35 = .ok (.iload_n 1, 1) := by decide +kernel
theorem dX9_save_36 : decode cX9_save 36 = .ok (.aload_n 0, 1) := by decide +kernel
theorem dX9_save_37 : decode cX9_save 37 = .ok (.getfield 122, 3) := by decide +kernel
theorem dX9_save_40 : decode cX9_save 40 = .ok (.if_icmp .ge 21, 3) := by decide +kernel
theorem dX9_save_43 : decode cX9_save 43 = .ok (.aload_n 0, 1) := by decide +kernel
theorem dX9_save_44 : decode cX9_save 44 = .ok (.getfield 25, 3) := by decide +kernel
theorem dX9_save_47 : decode cX9_save 47 = .ok (.iload_n 1, 1) := by decide +kernel
theorem dX9_save_48 : decode cX9_save 48 = .ok (.aload_n 0, 1) := by decide +kernel
theorem dX9_save_49 : decode cX9_save 49 = .ok (.getfield 16, 3) := by decide +kernel
theorem dX9_save_52 : decode cX9_save 52 = .ok (.iload_n 1, 1) := by decide +kernel
theorem dX9_save_53 : decode cX9_save 53 = .ok (.iaload, 1) := by decide +kernel
theorem dX9_save_54 : decode cX9_save 54 = .ok (.iastore, 1) := by decide +kernel
theorem dX9_save_55 : decode cX9_save 55 = .ok (.iinc 1 1, 3) := by decide +kernel
theorem dX9_save_58 : decode cX9_save 58 = .ok (.goto (-23), 3) := by decide +kernel
theorem dX9_save_61 : decode cX9_save 61 = .ok (.iconst 0, 1) := by decide +kernel
theorem dX9_save_62 : decode cX9_save 62 = .ok (.istore_n 1, 1) := by decide +kernel
theorem dX9_save_63 : decode cX9_save 63 = .ok (.iload_n 1, 1) := by decide +kernel
