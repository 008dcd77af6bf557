theorem dX9_save_64 : decode cX9_save 64 = .ok (.aload_n 0, 1) := by decide +kernel
theorem dX9_save_65 : decode cX9_save 65 = .ok (.getfield 187, 3) := by decide +kernel
theorem dX9_save_68 : decode cX9_save 68 = .ok (.if_icmp .ge 33, 3) := by decide +kernel
theorem dX9_save_71 : decode cX9_save 71 = .ok (.aload_n 0, 1) := by decide +kernel
theorem dX9_save_72 : decode cX9_save 72 = .ok (.getfield 51, 3) := by decide +kernel
theorem dX9_save_75 : decode cX9_save 75 = .ok (.iload_n 1, 1) := by decide +kernel
theorem dX9_save_76 : decode cX9_save 76 = .ok (.aload_n 0, 1) := by decide +kernel
theorem dX9_save_77 : decode cX9_save 77 = .ok (.getfield 45, 3) := by decide +kernel
theorem dX9_save_80 : decode cX9_save 80 = .ok (.iload_n 1, 1) := by decide +kernel
theorem dX9_save_81 : decode cX9_save 81 = .ok (.iaload, 1) := by decide +kernel
theorem dX9_save_82 : decode cX9_save 82 = .ok (.iastore, 1) := by decide +kernel
theorem dX9_save_83 : decode cX9_save 83 = .ok (.aload_n 0, 1) := by decide +kernel
theorem dX9_save_84 : decode cX9_save 84 = .ok (.getfield 54, 3) := by decide +kernel
theorem dX9_save_87 : decode cX9_save 87 = .ok (.iload_n 1, 1) := by decide +kernel
theorem dX9_save_88 : decode cX9_save 88 = .ok (.aload_n 0, 1) := by decide +kernel
theorem dX9_save_89 : decode cX9_save 89 = .ok (.getfield 48, 3) := by decide +kernel
theorem dX9_save_92 : decode cX9_save 92 = .ok (.iload_n 1, 1) := by decide +kernel
theorem dX9_save_93 : decode cX9_save 93 = .ok (.iaload, 1) := by decide +kernel
theorem dX9_save_94 : decode cX9_save 94 = .ok (.iastore, 1) := by decide +kernel
theorem dX9_save_95 : decode cX9_save 95 = .ok (.iinc 1 1, 3) := by decide +kernel
theorem dX9_save_98 : decode cX9_save 98 = .ok (.goto (-35), 3) := by decide +kernel
theorem dX9_save_101 : decode cX9_save 101 = .ok (.return_, 1) := by decide +kernel
theorem dX9_restore_0 : decode cX9_restore 0 = .ok (.aload_n 0, 1) := by decide +kernel
theorem dX9_restore_1 : decode cX9_restore 1 = .ok (.aload_n 0, 1) := by decide +kernel
theorem dX9_restore_2 : decode cX9_restore 2 = .ok (.getfield 237, 3) := by decide +kernel
theorem dX9_restore_5 : decode cX9_restore 5 = .ok (.ifCond .eq 7, 3) := by decide +kernel
theorem dX9_restore_8 : decode cX9_restore 8 = .ok (.iconst 0, 1) := by decide +kernel
theorem dX9_restore_9 : decode cX9_restore 9 = .ok (.goto 4, 3) := by decide +kernel
theorem dX9_restore_12 : decode cX9_restore 12 = .ok (.iconst 1, 1) := by decide +kernel
theorem dX9_restore_13 : decode cX9_restore 13 = .ok (.putfield 64, 3) := by decide +kernel
theorem dX9_restore_16 : decode cX9_restore 16 = .ok (.aload_n 0, 1) := by decide +kernel
theorem dX9_restore_17 : decode cX9_restore 17 = .ok (.getfield 237, 3) := by decide +kernel
theorem dX9_restore_20 : decode cX9_restore 20 = .ok (.ifCond .ne 4, 3) := by decide +kernel
theorem dX9_restore_23 : decode cX9_restore 23 = .ok (.return_, 1) := by decide +kernel
theorem dX9_restore_24 : decode cX9_restore 24 = .ok (.aload_n 0, 1) := by decide +kernel
theorem dX9_restore_25 : decode cX9_restore 25 = .ok (.bipush 14, 2) := by decide +kernel
theorem dX9_restore_27 : decode cX9_restore 27 = .ok (.iconst 0, 1) := by decide +kernel
theorem dX9_restore_28 : decode cX9_restore 28 = .ok (.invokevirtual 109, 3) := by decide +kernel
theorem dX9_restore_31 : decode cX9_restore 31 = .ok (.aload_n 0, 1) := by decide +kernel
theorem dX9_restore_32 : decode cX9_restore 32 = .ok (.invokevirtual 112, 3) := by decide +kernel
theorem dX9_restore_35 : decode cX9_restore 35 = .ok (.aload_n 0, 1) := by decide +kernel
theorem dX9_restore_36 : decode cX9_restore 36 = .ok (.iconst 0, 1) := by decide +kernel
theorem dX9_restore_37 : decode cX9_restore 37 = .ok (.iconst 4, 1) := by decide +kernel
theorem dX9_restore_38 : decode cX9_restore 38 = .ok (.invokevirtual 109, 3) := by decide +kernel
theorem dX9_restore_41 : decode cX9_restore 41 = .ok (.aload_n 0, 1) := by decide +kernel
theorem dX9_restore_42 : decode cX9_restore 42 = .ok (.iconst 0, 1) := by decide +kernel
theorem dX9_restore_43 : decode cX9_restore 43 = .ok (.putfield 115, 3) := by decide +kernel
theorem dX9_restore_46 : decode cX9_restore 46 = .ok (.aload_n 0, 1) := by decide +kernel
theorem dX9_restore_47 : decode cX9_restore 47 = .ok (.aload_n 0, 1) := by decide +kernel
theorem dX9_restore_48 : decode cX9_restore 48 = .ok (.getfield 240, 3) := by decide +kernel
theorem dX9_restore_51 : decode cX9_restore 51 = .ok (.putfield 122, 3) := by decide +kernel
theorem dX9_restore_54 : decode cX9_restore 54 = .ok (.aload_n 0, 1) := by decide +kernel
theorem dX9_restore_55 : decode cX9_restore 55 = .ok (.aload_n 0, 1) := by decide +kernel
theorem dX9_restore_56 : decode cX9_restore 56 = .ok (.getfield 243, 3) := by decide +kernel
theorem dX9_restore_59 : decode cX9_restore 59 = .ok (.putfield 187, 3) := by decide +kernel
theorem dX9_restore_62 : decode cX9_restore 62 = .ok (.iconst 0, 1) := by decide +kernel
theorem dX9_restore_63 : decode cX9_restore 63 = .ok (.istore_n 1, 1) := by decide +kernel
theorem dX9_restore_64 : decode cX9_restore 64 = .ok (.iload_n 1, 1) := by decide +kernel
theorem dX9_restore_65 : decode cX9_restore 65 = .ok (.aload_n 0, 1) := by decide +kernel
theorem dX9_restore_66 : decode cX9_restore 66 = .ok (.getfield 122, 3) := by decide +kernel
theorem dX9_restore_69 : decode cX9_restore 69 = .ok (.if_icmp .ge 21, 3) := by decide +kernel
theorem dX9_restore_72 : decode cX9_restore 72 = .ok (.aload_n 0, 1) := by decide +kernel
theorem dX9_restore_73 : decode cX9_restore 73 = .ok (.getfield 16, 3) := by decide +kernel
theorem dX9_restore_76 : decode cX9_restore 76 = .ok (.iload_n 1, 1) := by decide +kernel
theorem dX9_restore_77 : decode cX9_restore 77 = .ok (.aload_n 0, 1) := by decide +kernel
theorem dX9_restore_78 : decode cX9_restore 78 = .ok (.getfield 25, 3) := by decide +kernel
theorem dX9_restore_81 : decode cX9_restore 81 = .ok (.iload_n 1, 1) := by decide +kernel
theorem dX9_restore_82 : decode cX9_restore 82 = .ok (.iaload, 1) := by decide +kernel
theorem dX9_restore_83 : decode cX9_restore 83 = .ok (.iastore, 1) := by decide +kernel
theorem dX9_restore_84 : decode cX9_restore 84 = .ok (.iinc 1 1, 3) := by decide +kernel
theorem dX9_restore_87 : decode cX9_restore 87 = .ok (.goto (-23), 3) := by decide +kernel
theorem dX9_restore_90 : decode cX9_restore 90 = .ok (.iconst 0, 1) := by decide +kernel
theorem dX9_restore_91 : decode cX9_restore 91 = .ok (.istore_n 1, 1) := by decide +kernel
theorem dX9_restore_92 : decode cX9_restore 92 = .ok (.iload_n 1, 1) := by decide +kernel
theorem dX9_restore_93 : decode cX9_restore 93 = .ok (.aload_n 0, 1) := by decide +kernel
theorem dX9_restore_94 : decode cX9_restore 94 = .ok (.getfield 187, 3) := by decide +kernel
theorem dX9_restore_97 : decode cX9_restore 97 = .ok (.if_icmp .ge 33, 3) := by decide +kernel
theorem dX9_restore_100 : decode cX9_restore 100 = .ok (.aload_n 0, 1) := by decide +kernel
theorem dX9_restore_101 : decode cX9_restore 101 = .ok (.getfield 45, 3) := by decide +kernel
theorem dX9_restore_104 : decode cX9_restore 104 = .ok (.iload_n 1, 1) := by decide +kernel
theorem dX9_restore_105 : decode cX9_restore 105 = .ok (.aload_n 0, 1) := by decide +kernel
theorem dX9_restore_106 : decode cX9_restore 106 = .ok (.getfield 51, 3) := by decide +kernel
theorem dX9_restore_109 : decode cX9_restore 109 = .ok (.iload_n 1, 1) := by decide +kernel
theorem dX9_restore_110 : decode cX9_restore 110 = .ok (.iaload, 1) := by decide +kernel
theorem dX9_restore_111 : decode cX9_restore 111 = .ok (.iastore, 1) := by decide +kernel
theorem dX9_restore_112 : decode cX9_restore 112 = .ok (.aload_n 0, 1) := by decide +kernel
theorem dX9_restore_113 : decode cX9_restore 113 = .ok (.getfield 48, 3) := by decide +kernel
theorem dX9_restore_116 : decode cX9_restore 116 = .ok (.iload_n 1, 1) := by decide +kernel
theorem dX9_restore_117 : decode cX9_restore 117 = .ok (.aload_n 0, 1) := by decide +kernel
theorem dX9_restore_118 : decode cX9_restore 118 = .ok (.getfield 54, 3) := by decide +kernel
theorem dX9_restore_121 : decode cX9_restore 121 = .ok (.iload_n 1, 1) := by decide +kernel
theorem dX9_restore_122 : decode cX9_restore 122 = .ok (.iaload, 1) := by decide +kernel
theorem dX9_restore_123 : decode cX9_restore 123 = .ok (.iastore, 1) := by decide +kernel
theorem dX9_restore_124 : decode cX9_restore 124 = .ok (.iinc 1 1, 3) := by decide +kernel
theorem dX9_restore_127 : decode cX9_restore 127 = .ok (.goto (-35), 3) := by decide +kernel
theorem dX9_restore_130 : decode cX9_restore 130 = .ok (.return_, 1) := by decide +kernel
theorem dJ11_isValidCodePoint_9a6ad_0 : decode cJ11_isValidCodePoint_9a6ad 0 = .ok (.iload_n 0, 1) := by decide +kernel
theorem dJ11_isValidCodePoint_9a6ad_1 : decode cJ11_isValidCodePoint_9a6ad 1 = .ok (.bipush 16, 2) := by decide +kernel
theorem dJ11_isValidCodePoint_9a6ad_3 : decode cJ11_isValidCodePoint_9a6ad 3 = .ok (.iushr, 1) := by decide +kernel
theorem dJ11_isValidCodePoint_9a6ad_4 : decode cJ11_isValidCodePoint_9a6ad 4 = .ok (.istore_n 1, 1) := by decide +kernel
theorem dJ11_isValidCodePoint_9a6ad_5 : decode cJ11_isValidCodePoint_9a6ad 5 = .ok (.iload_n 1, 1) := by decide +kernel
theorem dJ11_isValidCodePoint_9a6ad_6 : decode cJ11_isValidCodePoint_9a6ad 6 = .ok (.bipush 17, 2) := by decide +kernel
theorem dJ11_isValidCodePoint_9a6ad_8 : decode cJ11_isValidCodePoint_9a6ad 8 = .ok (.if_icmp .ge 7, 3) := by decide +kernel
theorem dJ11_isValidCodePoint_9a6ad_11 : decode cJ11_isValidCodePoint_9a6ad 11 = .ok (.iconst 1, 1) := by decide +kernel
theorem dJ11_isValidCodePoint_9a6ad_12 : decode cJ11_isValidCodePoint_9a6ad 12 = .ok (.goto 4, 3) := by decide +kernel
theorem dJ11_isValidCodePoint_9a6ad_15 : decode cJ11_isValidCodePoint_9a6ad 15 = .ok (.iconst 0, 1) := by decide +kernel
theorem dJ11_isValidCodePoint_9a6ad_16 : decode cJ11_isValidCodePoint_9a6ad 16 = .ok (.ireturn, 1) := by decide +kernel
theorem dJ11_highSurrogate_5068e_0 : decode cJ11_highSurrogate_5068e 0 = .ok (.iload_n 0, 1) := by decide +kernel
theorem dJ11_highSurrogate_5068e_1 : decode cJ11_highSurrogate_5068e 1 = .ok (.bipush 10, 2) := by decide +kernel
theorem dJ11_highSurrogate_5068e_3 : decode cJ11_highSurrogate_5068e 3 = .ok (.iushr, 1) := by decide +kernel
theorem dJ11_highSurrogate_5068e_4 : decode cJ11_highSurrogate_5068e 4 = .ok (.ldc 110, 2) := by decide +kernel
theorem dJ11_highSurrogate_5068e_6 : decode cJ11_highSurrogate_5068e 6 = .ok (.iadd, 1) := by decide +kernel
theorem dJ11_highSurrogate_5068e_7 : decode cJ11_highSurrogate_5068e 7 = .ok (.i2c, 1) := by decide +kernel
theorem dJ11_highSurrogate_5068e_8 : decode cJ11_highSurrogate_5068e 8 = .ok (.ireturn, 1) := by decide +kernel
theorem dJ11_lowSurrogate_5068e_0 : decode cJ11_lowSurrogate_5068e 0 = .ok (.iload_n 0, 1) := by decide +kernel
theorem dJ11_lowSurrogate_5068e_1 : decode cJ11_lowSurrogate_5068e 1 = .ok (.sipush 1023, 3) := by decide +kernel
theorem dJ11_lowSurrogate_5068e_4 : decode cJ11_lowSurrogate_5068e 4 = .ok (.iand, 1) := by decide +kernel
theorem dJ11_lowSurrogate_5068e_5 : decode cJ11_lowSurrogate_5068e 5 = .ok (.ldc 76, 2) := by decide +kernel
theorem dJ11_lowSurrogate_5068e_7 : decode cJ11_lowSurrogate_5068e 7 = .ok (.iadd, 1) := by decide +kernel
theorem dJ11_lowSurrogate_5068e_8 : decode cJ11_lowSurrogate_5068e 8 = .ok (.i2c, 1) := by decide +kernel
theorem dJ11_lowSurrogate_5068e_9 : decode cJ11_lowSurrogate_5068e 9 = .ok (.ireturn, 1) := by decide +kernel
theorem dJ9_max_7cf53_0 : decode cJ9_max_7cf53 0 = .ok (.iload_n 0, 1) := by decide +kernel
theorem dJ9_max_7cf53_1 : decode cJ9_max_7cf53 1 = .ok (.iload_n 1, 1) := by decide +kernel
theorem dJ9_max_7cf53_2 : decode cJ9_max_7cf53 2 = .ok (.if_icmp .lt 7, 3) := by decide +kernel
theorem dJ9_max_7cf53_5 : decode cJ9_max_7cf53 5 = .ok (.iload_n 0, 1) := by decide +kernel
theorem dJ9_max_7cf53_6 : decode cJ9_max_7cf53 6 = .ok (.goto 4, 3) := by decide +kernel
theorem dJ9_max_7cf53_9 : decode cJ9_max_7cf53 9 = .ok (.iload_n 1, 1) := by decide +kernel
theorem dJ9_max_7cf53_10 : decode cJ9_max_7cf53 10 = .ok (.ireturn, 1) := by decide +kernel
theorem dJ9_min_7cf53_0 : decode cJ9_min_7cf53 0 = .ok (.iload_n 0, 1) := by decide +kernel
theorem dJ9_min_7cf53_1 : decode cJ9_min_7cf53 1 = .ok (.iload_n 1, 1) := by decide +kernel
theorem dJ9_min_7cf53_2 : decode cJ9_min_7cf53 2 = .ok (.if_icmp .gt 7, 3) := by decide +kernel
theorem dJ9_min_7cf53_5 : decode cJ9_min_7cf53 5 = .ok (.iload_n 0, 1) := by decide +kernel
theorem dJ9_min_7cf53_6 : decode cJ9_min_7cf53 6 = .ok (.goto 4, 3) := by decide +kernel
theorem dJ9_min_7cf53_9 : decode cJ9_min_7cf53 9 = .ok (.iload_n 1, 1) := by decide +kernel
theorem dJ9_min_7cf53_10 : decode cJ9_min_7cf53 10 = .ok (.ireturn, 1) := by decide +kernel
theorem dJ0_length_8abf5_0 : decode cJ0_length_8abf5 0 = .ok (.aload_n 0, 1) := by decide +kernel
theorem dJ0_length_8abf5_1 : decode cJ0_length_8abf5 1 = .ok (.getfield 9, 3) := by decide +kernel
theorem dJ0_length_8abf5_4 : decode cJ0_length_8abf5 4 = .ok (.arraylength, 1) := by decide +kernel
theorem dJ0_length_8abf5_5 : decode cJ0_length_8abf5 5 = .ok (.aload_n 0, 1) := by decide +kernel
theorem dJ0_length_8abf5_6 : decode cJ0_length_8abf5 6 = .ok (.invokevirtual 335, 3) := by decide +kernel
theorem dJ0_length_8abf5_9 : decode cJ0_length_8abf5 9 = .ok (.ishr, 1) := by decide +kernel
theorem dJ0_length_8abf5_10 : decode cJ0_length_8abf5 10 = .ok (.ireturn, 1) := by decide +kernel
theorem dJ0_indexOf_0f7a4_0 : decode cJ0_indexOf_0f7a4 0 = .ok (.aload_n 0, 1) := by decide +kernel
theorem dJ0_indexOf_0f7a4_1 : decode cJ0_indexOf_0f7a4 1 = .ok (.iload_n 1, 1) := by decide +kernel
theorem dJ0_indexOf_0f7a4_2 : decode cJ0_indexOf_0f7a4 2 = .ok (.iconst 0, 1) := by decide +kernel
theorem dJ0_indexOf_0f7a4_3 : decode cJ0_indexOf_0f7a4 3 = .ok (.invokevirtual 633, 3) := by decide +kernel
theorem dJ0_indexOf_0f7a4_6 : decode cJ0_indexOf_0f7a4 6 = .ok (.ireturn, 1) := by decide +kernel
theorem dJ0_indexOf_7cf53_0 : decode cJ0_indexOf_7cf53 0 = .ok (.aload_n 0, 1) := by decide +kernel
theorem dJ0_indexOf_7cf53_1 : decode cJ0_indexOf_7cf53 1 = .ok (.invokevirtual 492, 3) := by decide +kernel
theorem dJ0_indexOf_7cf53_4 : decode cJ0_indexOf_7cf53 4 = .ok (.ifCond .eq 19, 3) := by decide +kernel
theorem dJ0_indexOf_7cf53_7 : decode cJ0_indexOf_7cf53 7 = .ok (.aload_n 0, 1) := by decide +kernel
theorem dJ0_indexOf_7cf53_8 : decode cJ0_indexOf_7cf53 8 = .ok (.getfield 9, 3) := by decide +kernel
theorem dJ0_indexOf_7cf53_11 : decode cJ0_indexOf_7cf53 11 = .ok (.iload_n 1, 1) := by decide +kernel
theorem dJ0_indexOf_7cf53_12 : decode cJ0_indexOf_7cf53 12 = .ok (.iload_n 2, 1) := by decide +kernel
theorem dJ0_indexOf_7cf53_13 : decode cJ0_indexOf_7cf53 13 = .ok (.aload_n 0, 1) := by decide +kernel
theorem dJ0_indexOf_7cf53_14 : decode cJ0_indexOf_7cf53 14 = .ok (.invokevirtual 505, 3) := by decide +kernel
theorem dJ0_indexOf_7cf53_17 : decode cJ0_indexOf_7cf53 17 = .ok (.invokestatic 637, 3) := by decide +kernel
theorem dJ0_indexOf_7cf53_20 : decode cJ0_indexOf_7cf53 20 = .ok (.goto 16, 3) := by decide +kernel
theorem dJ0_indexOf_7cf53_23 : decode cJ0_indexOf_7cf53 23 = .ok (.aload_n 0, 1) := by decide +kernel
theorem dJ0_indexOf_7cf53_24 : decode cJ0_indexOf_7cf53 24 = .ok (.getfield 9, 3) := by decide +kernel
theorem dJ0_indexOf_7cf53_27 : decode cJ0_indexOf_7cf53 27 = .ok (.iload_n 1, 1) := by decide +kernel
theorem dJ0_indexOf_7cf53_28 : decode cJ0_indexOf_7cf53 28 = .ok (.iload_n 2, 1) := by decide +kernel
theorem dJ0_indexOf_7cf53_29 : decode cJ0_indexOf_7cf53 29 = .ok (.aload_n 0, 1) := by decide +kernel
theorem dJ0_indexOf_7cf53_30 : decode cJ0_indexOf_7cf53 30 = .ok (.invokevirtual 505, 3) := by decide +kernel
theorem dJ0_indexOf_7cf53_33 : decode cJ0_indexOf_7cf53 33 = .ok (.invokestatic 640, 3) := by decide +kernel
theorem dJ0_indexOf_7cf53_36 : decode cJ0_indexOf_7cf53 36 = .ok (.ireturn, 1) := by decide +kernel
theorem dJ0_coder_7d493_0 : decode cJ0_coder_7d493 0 = .ok (.getstatic 38, 3) := by decide +kernel
theorem dJ0_coder_7d493_3 : decode cJ0_coder_7d493 3 = .ok (.ifCond .eq 10, 3) := by decide +kernel
theorem dJ0_coder_7d493_6 : decode cJ0_coder_7d493 6 = .ok (.aload_n 0, 1) := by decide +kernel
theorem dJ0_coder_7d493_7 : decode cJ0_coder_7d493 7 = .ok (.getfield 15, 3) := by decide +kernel
theorem dJ0_coder_7d493_10 : decode cJ0_coder_7d493 10 = .ok (.goto 4, 3) := by decide +kernel
theorem dJ0_coder_7d493_13 : decode cJ0_coder_7d493 13 = .ok (.iconst 1, 1) := by decide +kernel
theorem dJ0_coder_7d493_14 : decode cJ0_coder_7d493 14 = .ok (.ireturn, 1) := by decide +kernel
theorem dJ0_isLatin1_aae02_0 : decode cJ0_isLatin1_aae02 0 = .ok (.getstatic 38, 3) := by decide +kernel
theorem dJ0_isLatin1_aae02_3 : decode cJ0_isLatin1_aae02 3 = .ok (.ifCond .eq 14, 3) := by decide +kernel
theorem dJ0_isLatin1_aae02_6 : decode cJ0_isLatin1_aae02 6 = .ok (.aload_n 0, 1) := by decide +kernel
theorem dJ0_isLatin1_aae02_7 : decode cJ0_isLatin1_aae02 7 = .ok (.getfield 15, 3) := by decide +kernel
theorem dJ0_isLatin1_aae02_10 : decode cJ0_isLatin1_aae02 10 = .ok (.ifCond .ne 7, 3) := by decide +kernel
theorem dJ0_isLatin1_aae02_13 : decode cJ0_isLatin1_aae02 13 = .ok (.iconst 1, 1) := by decide +kernel
theorem dJ0_isLatin1_aae02_14 : decode cJ0_isLatin1_aae02 14 = .ok (.goto 4, 3) := by decide +kernel
theorem dJ0_isLatin1_aae02_17 : decode cJ0_isLatin1_aae02 17 = .ok (.iconst 0, 1) := by decide +kernel
theorem dJ0_isLatin1_aae02_18 : decode cJ0_isLatin1_aae02 18 = .ok (.ireturn, 1) := by decide +kernel
theorem dJ0_checkBoundsBeginEnd_23922_0 : decode cJ0_checkBoundsBeginEnd_23922 0 = .ok (.iload_n 0, 1) := by decide +kernel
theorem dJ0_checkBoundsBeginEnd_23922_1 : decode cJ0_checkBoundsBeginEnd_23922 1 = .ok (.iload_n 1, 1) := by decide +kernel
theorem dJ0_checkBoundsBeginEnd_23922_2 : decode cJ0_checkBoundsBeginEnd_23922 2 = .ok (.iload_n 2, 1) := by decide +kernel
theorem dJ0_checkBoundsBeginEnd_23922_3 : decode cJ0_checkBoundsBeginEnd_23922 3 = .ok (.getstatic 1053, 3) := by decide +kernel
theorem dJ0_checkBoundsBeginEnd_23922_6 : decode cJ0_checkBoundsBeginEnd_23922 6 = .ok (.invokestatic 1062, 3) := by decide +kernel
theorem dJ0_checkBoundsBeginEnd_23922_9 : decode cJ0_checkBoundsBeginEnd_23922 9 = .ok (.pop, 1) := by decide +kernel
theorem dJ0_checkBoundsBeginEnd_23922_10 : decode cJ0_checkBoundsBeginEnd_23922 10 = .ok (.return_, 1) := by decide +kernel
theorem dJ1_canEncode_9a6ad_0 : decode cJ1_canEncode_9a6ad 0 = .ok (.iload_n 0, 1) := by decide +kernel
theorem dJ1_canEncode_9a6ad_1 : decode cJ1_canEncode_9a6ad 1 = .ok (.ifCond .lt 14, 3) := by decide +kernel
theorem dJ1_canEncode_9a6ad_4 : decode cJ1_canEncode_9a6ad 4 = .ok (.iload_n 0, 1) := by decide +kernel
theorem dJ1_canEncode_9a6ad_5 : decode cJ1_canEncode_9a6ad 5 = .ok (.sipush 255, 3) := by decide +kernel
theorem dJ1_canEncode_9a6ad_8 : decode cJ1_canEncode_9a6ad 8 = .ok (.if_icmp .gt 7, 3) := by decide +kernel
theorem dJ1_canEncode_9a6ad_11 : decode cJ1_canEncode_9a6ad 11 = .ok (.iconst 1, 1) := by decide +kernel
theorem dJ1_canEncode_9a6ad_12 : decode cJ1_canEncode_9a6ad 12 = .ok (.goto 4, 3) := by decide +kernel
theorem dJ1_canEncode_9a6ad_15 : decode cJ1_canEncode_9a6ad 15 = .ok (.iconst 0, 1) := by decide +kernel
theorem dJ1_canEncode_9a6ad_16 : decode cJ1_canEncode_9a6ad 16 = .ok (.ireturn, 1) := by decide +kernel
theorem dJ1_indexOf_4cfef_0 : decode cJ1_indexOf_4cfef 0 = .ok (.iload_n 1, 1) := by decide +kernel
theorem dJ1_indexOf_4cfef_1 : decode cJ1_indexOf_4cfef 1 = .ok (.invokestatic 88, 3) := by decide +kernel
theorem dJ1_indexOf_4cfef_4 : decode cJ1_indexOf_4cfef 4 = .ok (.ifCond .ne 5, 3) := by decide +kernel
theorem dJ1_indexOf_4cfef_7 : decode cJ1_indexOf_4cfef 7 = .ok (.iconst (-1), 1) := by decide +kernel
theorem dJ1_indexOf_4cfef_8 : decode cJ1_indexOf_4cfef 8 = .ok (.ireturn, 1) := by decide +kernel
theorem dJ1_indexOf_4cfef_9 : decode cJ1_indexOf_4cfef 9 = .ok (.iload_n 2, 1) := by decide +kernel
theorem dJ1_indexOf_4cfef_10 : decode cJ1_indexOf_4cfef 10 = .ok (.iconst 0, 1) := by decide +kernel
theorem dJ1_indexOf_4cfef_11 : decode cJ1_indexOf_4cfef 11 = .ok (.invokestatic 92, 3) := by decide +kernel
theorem dJ1_indexOf_4cfef_14 : decode cJ1_indexOf_4cfef 14 = .ok (.istore_n 2, 1) := by decide +kernel
theorem dJ1_indexOf_4cfef_15 : decode cJ1_indexOf_4cfef 15 = .ok (.iload_n 3, 1) := by decide +kernel
theorem dJ1_indexOf_4cfef_16 : decode cJ1_indexOf_4cfef 16 = .ok (.aload_n 0, 1) := by decide +kernel
theorem dJ1_indexOf_4cfef_17 : decode cJ1_indexOf_4cfef 17 = .ok (.arraylength, 1) := by decide +kernel
theorem dJ1_indexOf_4cfef_18 : decode cJ1_indexOf_4cfef 18 = .ok (.invokestatic 38, 3) := by decide +kernel
theorem dJ1_indexOf_4cfef_21 : decode cJ1_indexOf_4cfef 21 = .ok (.istore_n 3, 1) := by decide +kernel
theorem dJ1_indexOf_4cfef_22 : decode cJ1_indexOf_4cfef 22 = .ok (.iload_n 2, 1) := by decide +kernel
theorem dJ1_indexOf_4cfef_23 : decode cJ1_indexOf_4cfef 23 = .ok (.iload_n 3, 1) := by decide +kernel
theorem dJ1_indexOf_4cfef_24 : decode cJ1_indexOf_4cfef 24 = .ok (.if_icmp .lt 5, 3) := by decide +kernel
theorem dJ1_indexOf_4cfef_27 : decode cJ1_indexOf_4cfef 27 = .ok (.iconst (-1), 1) := by decide +kernel
theorem dJ1_indexOf_4cfef_28 : decode cJ1_indexOf_4cfef 28 = .ok (.ireturn, 1) := by decide +kernel
theorem dJ1_indexOf_4cfef_29 : decode cJ1_indexOf_4cfef 29 = .ok (.aload_n 0, 1) := by decide +kernel
theorem dJ1_indexOf_4cfef_30 : decode cJ1_indexOf_4cfef 30 = .ok (.iload_n 1, 1) := by decide +kernel
theorem dJ1_indexOf_4cfef_31 : decode cJ1_indexOf_4cfef 31 = .ok (.iload_n 2, 1) := by decide +kernel
theorem dJ1_indexOf_4cfef_32 : decode cJ1_indexOf_4cfef 32 = .ok (.iload_n 3, 1) := by decide +kernel
theorem dJ1_indexOf_4cfef_33 : decode cJ1_indexOf_4cfef 33 = .ok (.invokestatic 95, 3) := by decide +kernel
theorem dJ1_indexOf_4cfef_36 : decode cJ1_indexOf_4cfef 36 = .ok (.ireturn, 1) := by decide +kernel
theorem dJ1_indexOfChar_4cfef_0 : decode cJ1_indexOfChar_4cfef 0 = .ok (.iload_n 1, 1) := by decide +kernel
theorem dJ1_indexOfChar_4cfef_1 : decode cJ1_indexOfChar_4cfef 1 = .ok (.i2b, 1) := by decide +kernel
theorem dJ1_indexOfChar_4cfef_2 : decode cJ1_indexOfChar_4cfef 2 = .ok (.istore 4, 2) := by decide +kernel
theorem dJ1_indexOfChar_4cfef_4 : decode cJ1_indexOfChar_4cfef 4 = .ok (.iload_n 2, 1) := by decide +kernel
theorem dJ1_indexOfChar_4cfef_5 : decode cJ1_indexOfChar_4cfef 5 = .ok (.istore 5, 2) := by decide +kernel
theorem dJ1_indexOfChar_4cfef_7 : decode cJ1_indexOfChar_4cfef 7 = .ok (.iload 5, 2) := by decide +kernel
theorem dJ1_indexOfChar_4cfef_9 : decode cJ1_indexOfChar_4cfef 9 = .ok (.iload_n 3, 1) := by decide +kernel
theorem dJ1_indexOfChar_4cfef_10 : decode cJ1_indexOfChar_4cfef 10 = .ok (.if_icmp .ge 21, 3) := by decide +kernel
theorem dJ1_indexOfChar_4cfef_13 : decode cJ1_indexOfChar_4cfef 13 = .ok (.aload_n 0, 1) := by decide +kernel
theorem dJ1_indexOfChar_4cfef_14 : decode cJ1_indexOfChar_4cfef 14 = .ok (.iload 5, 2) := by decide +kernel
theorem dJ1_indexOfChar_4cfef_16 : decode cJ1_indexOfChar_4cfef 16 = .ok (.baload, 1) := by decide +kernel
theorem dJ1_indexOfChar_4cfef_17 : decode cJ1_indexOfChar_4cfef 17 = .ok (.iload 4, 2) := by decide +kernel
theorem dJ1_indexOfChar_4cfef_19 : decode cJ1_indexOfChar_4cfef 19 = .ok (.if_icmp .ne 6, 3) := by decide +kernel
theorem dJ1_indexOfChar_4cfef_22 : decode cJ1_indexOfChar_4cfef 22 = .ok (.iload 5, 2) := by decide +kernel
theorem dJ1_indexOfChar_4cfef_24 : decode cJ1_indexOfChar_4cfef 24 = .ok (.ireturn, 1) := by decide +kernel
theorem dJ1_indexOfChar_4cfef_25 : decode cJ1_indexOfChar_4cfef 25 = .ok (.iinc 5 1, 3) := by decide +kernel
theorem dJ1_indexOfChar_4cfef_28 : decode cJ1_indexOfChar_4cfef 28 = .ok (.goto (-21), 3) := by decide +kernel
theorem dJ1_indexOfChar_4cfef_31 : decode cJ1_indexOfChar_4cfef 31 = .ok (.iconst (-1), 1) := by decide +kernel
theorem dJ1_indexOfChar_4cfef_32 : decode cJ1_indexOfChar_4cfef 32 = .ok (.ireturn, 1) := by decide +kernel
theorem dJ2_getChar_3b067_0 : decode cJ2_getChar_3b067 0 = .ok (.getstatic 44, 3) := by decide +kernel
theorem dJ2_getChar_3b067_3 : decode cJ2_getChar_3b067 3 = .ok (.ifCond .ne 25, 3) := by decide +kernel
theorem dJ2_getChar_3b067_6 : decode cJ2_getChar_3b067 6 = .ok (.iload_n 1, 1) := by decide +kernel
theorem dJ2_getChar_3b067_7 : decode cJ2_getChar_3b067 7 = .ok (.ifCond .lt 11, 3) := by decide +kernel
theorem dJ2_getChar_3b067_10 : decode cJ2_getChar_3b067 10 = .ok (.iload_n 1, 1) := by decide +kernel
theorem dJ2_getChar_3b067_11 : decode cJ2_getChar_3b067 11 = .ok (.aload_n 0, 1) := by decide +kernel
theorem dJ2_getChar_3b067_12 : decode cJ2_getChar_3b067 12 = .ok (.invokestatic 48, 3) := by decide +kernel
theorem dJ2_getChar_3b067_15 : decode cJ2_getChar_3b067 15 = .ok (.if_icmp .lt 13, 3) := by decide +kernel
theorem dJ2_getChar_3b067_18 : decode cJ2_getChar_3b067 18 = .ok (.new 52, 3) := by decide +kernel
theorem dJ2_getChar_3b067_21 : decode cJ2_getChar_3b067 21 = .ok (.dup, 1) := by decide +kernel
theorem dJ2_getChar_3b067_22 : decode cJ2_getChar_3b067 22 = .ok (.ldc 54, 2) := by decide +kernel
theorem dJ2_getChar_3b067_24 : decode cJ2_getChar_3b067 24 = .ok (.invokespecial 56, 3) := by decide +kernel
theorem dJ2_getChar_3b067_27 : decode cJ2_getChar_3b067 27 = .ok (.athrow, 1) := by decide +kernel
theorem dJ2_getChar_3b067_28 : decode cJ2_getChar_3b067 28 = .ok (.iload_n 1, 1) := by decide +kernel
theorem dJ2_getChar_3b067_29 : decode cJ2_getChar_3b067 29 = .ok (.iconst 1, 1) := by decide +kernel
theorem dJ2_getChar_3b067_30 : decode cJ2_getChar_3b067 30 = .ok (.ishl, 1) := by decide +kernel
theorem dJ2_getChar_3b067_31 : decode cJ2_getChar_3b067 31 = .ok (.istore_n 1, 1) := by decide +kernel
theorem dJ2_getChar_3b067_32 : decode cJ2_getChar_3b067 32 = .ok (.aload_n 0, 1) := by decide +kernel
theorem dJ2_getChar_3b067_33 : decode cJ2_getChar_3b067 33 = .ok (.iload_n 1, 1) := by decide +kernel
theorem dJ2_getChar_3b067_34 : decode cJ2_getChar_3b067 34 = .ok (.iinc 1 1, 3) := by decide +kernel
theorem dJ2_getChar_3b067_37 : decode cJ2_getChar_3b067 37 = .ok (.baload, 1) := by decide +kernel
theorem dJ2_getChar_3b067_38 : decode cJ2_getChar_3b067 38 = .ok (.sipush 255, 3) := by decide +kernel
theorem dJ2_getChar_3b067_41 : decode cJ2_getChar_3b067 41 = .ok (.iand, 1) := by decide +kernel
theorem dJ2_getChar_3b067_42 : decode cJ2_getChar_3b067 42 = .ok (.getstatic 59, 3) := by decide +kernel
theorem dJ2_getChar_3b067_45 : decode cJ2_getChar_3b067 45 = .ok (.ishl, 1) := by decide +kernel
theorem dJ2_getChar_3b067_46 : decode cJ2_getChar_3b067 46 = .ok (.aload_n 0, 1) := by decide +kernel
theorem dJ2_getChar_3b067_47 : decode cJ2_getChar_3b067 47 = .ok (.iload_n 1, 1) := by decide +kernel
theorem dJ2_getChar_3b067_48 : decode cJ2_getChar_3b067 48 = .ok (.baload, 1) := by decide +kernel
theorem dJ2_getChar_3b067_49 : decode cJ2_getChar_3b067 49 = .ok (.sipush 255, 3) := by decide +kernel
theorem dJ2_getChar_3b067_52 : decode cJ2_getChar_3b067 52 = .ok (.iand, 1) := by decide +kernel
theorem dJ2_getChar_3b067_53 : decode cJ2_getChar_3b067 53 = .ok (.getstatic 63, 3) := by decide +kernel
theorem dJ2_getChar_3b067_56 : decode cJ2_getChar_3b067 56 = .ok (.ishl, 1) := by decide +kernel
theorem dJ2_getChar_3b067_57 : decode cJ2_getChar_3b067 57 = .ok (.ior, 1) := by decide +kernel
theorem dJ2_getChar_3b067_58 : decode cJ2_getChar_3b067 58 = .ok (.i2c, 1) := by decide +kernel
theorem dJ2_getChar_3b067_59 : decode cJ2_getChar_3b067 59 = .ok (.ireturn, 1) := by decide +kernel
theorem dJ2_length_9d52b_0 : decode cJ2_length_9d52b 0 = .ok (.aload_n 0, 1) := by decide +kernel
theorem dJ2_length_9d52b_1 : decode cJ2_length_9d52b 1 = .ok (.arraylength, 1) := by decide +kernel
theorem dJ2_length_9d52b_2 : decode cJ2_length_9d52b 2 = .ok (.iconst 1, 1) := by decide +kernel
theorem dJ2_length_9d52b_3 : decode cJ2_length_9d52b 3 = .ok (.ishr, 1) := by decide +kernel
theorem dJ2_length_9d52b_4 : decode cJ2_length_9d52b 4 = .ok (.ireturn, 1) := by decide +kernel
theorem dJ2_indexOf_4cfef_0 : decode cJ2_indexOf_4cfef 0 = .ok (.iload_n 2, 1) := by decide +kernel
theorem dJ2_indexOf_4cfef_1 : decode cJ2_indexOf_4cfef 1 = .ok (.iconst 0, 1) := by decide +kernel
theorem dJ2_indexOf_4cfef_2 : decode cJ2_indexOf_4cfef 2 = .ok (.invokestatic 224, 3) := by decide +kernel
theorem dJ2_indexOf_4cfef_5 : decode cJ2_indexOf_4cfef 5 = .ok (.istore_n 2, 1) := by decide +kernel
theorem dJ2_indexOf_4cfef_6 : decode cJ2_indexOf_4cfef 6 = .ok (.iload_n 3, 1) := by decide +kernel
theorem dJ2_indexOf_4cfef_7 : decode cJ2_indexOf_4cfef 7 = .ok (.aload_n 0, 1) := by decide +kernel
theorem dJ2_indexOf_4cfef_8 : decode cJ2_indexOf_4cfef 8 = .ok (.arraylength, 1) := by decide +kernel
theorem dJ2_indexOf_4cfef_9 : decode cJ2_indexOf_4cfef 9 = .ok (.iconst 1, 1) := by decide +kernel
theorem dJ2_indexOf_4cfef_10 : decode cJ2_indexOf_4cfef 10 = .ok (.ishr, 1) := by decide +kernel
theorem dJ2_indexOf_4cfef_11 : decode cJ2_indexOf_4cfef 11 = .ok (.invokestatic 183, 3) := by decide +kernel
theorem dJ2_indexOf_4cfef_14 : decode cJ2_indexOf_4cfef 14 = .ok (.istore_n 3, 1) := by decide +kernel
theorem dJ2_indexOf_4cfef_15 : decode cJ2_indexOf_4cfef 15 = .ok (.iload_n 2, 1) := by decide +kernel
theorem dJ2_indexOf_4cfef_16 : decode cJ2_indexOf_4cfef 16 = .ok (.iload_n 3, 1) := by decide +kernel
theorem dJ2_indexOf_4cfef_17 : decode cJ2_indexOf_4cfef 17 = .ok (.if_icmp .lt 5, 3) := by decide +kernel
theorem dJ2_indexOf_4cfef_20 : decode cJ2_indexOf_4cfef 20 = .ok (.iconst (-1), 1) := by decide +kernel
theorem dJ2_indexOf_4cfef_21 : decode cJ2_indexOf_4cfef 21 = .ok (.ireturn, 1) := by decide +kernel
theorem dJ2_indexOf_4cfef_22 : decode cJ2_indexOf_4cfef 22 = .ok (.iload_n 1, 1) := by decide +kernel
theorem dJ2_indexOf_4cfef_23 : decode cJ2_indexOf_4cfef 23 = .ok (.ldc 227, 2) := by decide +kernel
theorem dJ2_indexOf_4cfef_25 : decode cJ2_indexOf_4cfef 25 = .ok (.if_icmp .ge 11, 3) := by decide +kernel
theorem dJ2_indexOf_4cfef_28 : decode cJ2_indexOf_4cfef 28 = .ok (.aload_n 0, 1) := by decide +kernel
theorem dJ2_indexOf_4cfef_29 : decode cJ2_indexOf_4cfef 29 = .ok (.iload_n 1, 1) := by decide +kernel
theorem dJ2_indexOf_4cfef_30 : decode cJ2_indexOf_4cfef 30 = .ok (.iload_n 2, 1) := by decide +kernel
theorem dJ2_indexOf_4cfef_31 : decode cJ2_indexOf_4cfef 31 = .ok (.iload_n 3, 1) := by decide +kernel
theorem dJ2_indexOf_4cfef_32 : decode cJ2_indexOf_4cfef 32 = .ok (.invokestatic 228, 3) := by decide +kernel
theorem dJ2_indexOf_4cfef_35 : decode cJ2_indexOf_4cfef 35 = .ok (.ireturn, 1) := by decide +kernel
theorem dJ2_indexOf_4cfef_36 : decode cJ2_indexOf_4cfef 36 = .ok (.aload_n 0, 1) := by decide +kernel
theorem dJ2_indexOf_4cfef_37 : decode cJ2_indexOf_4cfef 37 = .ok (.iload_n 1, 1) := by decide +kernel
theorem dJ2_indexOf_4cfef_38 : decode cJ2_indexOf_4cfef 38 = .ok (.iload_n 2, 1) := by decide +kernel
theorem dJ2_indexOf_4cfef_39 : decode cJ2_indexOf_4cfef 39 = .ok (.iload_n 3, 1) := by decide +kernel
theorem dJ2_indexOf_4cfef_40 : decode cJ2_indexOf_4cfef 40 = .ok (.invokestatic 232, 3) := by decide +kernel
theorem dJ2_indexOf_4cfef_43 : decode cJ2_indexOf_4cfef 43 = .ok (.ireturn, 1) := by decide +kernel
theorem dJ2_indexOfChar_4cfef_0 : decode cJ2_indexOfChar_4cfef 0 = .ok (.iload_n 2, 1) := by decide +kernel
theorem dJ2_indexOfChar_4cfef_1 : decode cJ2_indexOfChar_4cfef 1 = .ok (.iload_n 3, 1) := by decide +kernel
theorem dJ2_indexOfChar_4cfef_2 : decode cJ2_indexOfChar_4cfef 2 = .ok (.aload_n 0, 1) := by decide +kernel
theorem dJ2_indexOfChar_4cfef_3 : decode cJ2_indexOfChar_4cfef 3 = .ok (.invokestatic 96, 3) := by decide +kernel
theorem dJ2_indexOfChar_4cfef_6 : decode cJ2_indexOfChar_4cfef 6 = .ok (.aload_n 0, 1) := by decide +kernel
theorem dJ2_indexOfChar_4cfef_7 : decode cJ2_indexOfChar_4cfef 7 = .ok (.iload_n 1, 1) := by decide +kernel
theorem dJ2_indexOfChar_4cfef_8 : decode cJ2_indexOfChar_4cfef 8 = .ok (.iload_n 2, 1) := by decide +kernel
theorem dJ2_indexOfChar_4cfef_9 : decode cJ2_indexOfChar_4cfef 9 = .ok (.iload_n 3, 1) := by decide +kernel
theorem dJ2_indexOfChar_4cfef_10 : decode cJ2_indexOfChar_4cfef 10 = .ok (.invokestatic 244, 3) := by decide +kernel
theorem dJ2_indexOfChar_4cfef_13 : decode cJ2_indexOfChar_4cfef 13 = .ok (.ireturn, 1) := by decide +kernel
theorem dJ2_indexOfCharUnsafe_4cfef_0 : decode cJ2_indexOfCharUnsafe_4cfef 0 = .ok (.iload_n 2, 1) := by decide +kernel
theorem dJ2_indexOfCharUnsafe_4cfef_1 : decode cJ2_indexOfCharUnsafe_4cfef 1 = .ok (.istore 4, 2) := by decide +kernel
theorem dJ2_indexOfCharUnsafe_4cfef_3 : decode cJ2_indexOfCharUnsafe_4cfef 3 = .ok (.iload 4, 2) := by decide +kernel
theorem dJ2_indexOfCharUnsafe_4cfef_5 : decode cJ2_indexOfCharUnsafe_4cfef 5 = .ok (.iload_n 3, 1) := by decide +kernel
theorem dJ2_indexOfCharUnsafe_4cfef_6 : decode cJ2_indexOfCharUnsafe_4cfef 6 = .ok (.if_icmp .ge 22, 3) := by decide +kernel
theorem dJ2_indexOfCharUnsafe_4cfef_9 : decode cJ2_indexOfCharUnsafe_4cfef 9 = .ok (.aload_n 0, 1) := by decide +kernel
theorem dJ2_indexOfCharUnsafe_4cfef_10 : decode cJ2_indexOfCharUnsafe_4cfef 10 = .ok (.iload 4, 2) := by decide +kernel
theorem dJ2_indexOfCharUnsafe_4cfef_12 : decode cJ2_indexOfCharUnsafe_4cfef 12 = .ok (.invokestatic 71, 3) := by decide +kernel
theorem dJ2_indexOfCharUnsafe_4cfef_15 : decode cJ2_indexOfCharUnsafe_4cfef 15 = .ok (.iload_n 1, 1) := by decide +kernel
theorem dJ2_indexOfCharUnsafe_4cfef_16 : decode cJ2_indexOfCharUnsafe_4cfef 16 = .ok (.if_icmp .ne 6, 3) := by decide +kernel
theorem dJ2_indexOfCharUnsafe_4cfef_19 : decode cJ2_indexOfCharUnsafe_4cfef 19 = .ok (.iload 4, 2) := by decide +kernel
theorem dJ2_indexOfCharUnsafe_4cfef_21 : decode cJ2_indexOfCharUnsafe_4cfef 21 = .ok (.ireturn, 1) := by decide +kernel
theorem dJ2_indexOfCharUnsafe_4cfef_22 : decode cJ2_indexOfCharUnsafe_4cfef 22 = .ok (.iinc 4 1, 3) := by decide +kernel
theorem dJ2_indexOfCharUnsafe_4cfef_25 : decode cJ2_indexOfCharUnsafe_4cfef 25 = .ok (.goto (-22), 3) := by decide +kernel
theorem dJ2_indexOfCharUnsafe_4cfef_28 : decode cJ2_indexOfCharUnsafe_4cfef 28 = .ok (.iconst (-1), 1) := by decide +kernel
theorem dJ2_indexOfCharUnsafe_4cfef_29 : decode cJ2_indexOfCharUnsafe_4cfef 29 = .ok (.ireturn, 1) := by decide +kernel
theorem dJ2_indexOfSupplementary_4cfef_0 : decode cJ2_indexOfSupplementary_4cfef 0 = .ok (.iload_n 1, 1) := by decide +kernel
theorem dJ2_indexOfSupplementary_4cfef_1 : decode cJ2_indexOfSupplementary_4cfef 1 = .ok (.invokestatic 164, 3) := by decide +kernel
theorem dJ2_indexOfSupplementary_4cfef_4 : decode cJ2_indexOfSupplementary_4cfef 4 = .ok (.ifCond .eq 65, 3) := by decide +kernel
theorem dJ2_indexOfSupplementary_4cfef_7 : decode cJ2_indexOfSupplementary_4cfef 7 = .ok (.iload_n 1, 1) := by decide +kernel
theorem dJ2_indexOfSupplementary_4cfef_8 : decode cJ2_indexOfSupplementary_4cfef 8 = .ok (.invokestatic 157, 3) := by decide +kernel
theorem dJ2_indexOfSupplementary_4cfef_11 : decode cJ2_indexOfSupplementary_4cfef 11 = .ok (.istore 4, 2) := by decide +kernel
theorem dJ2_indexOfSupplementary_4cfef_13 : decode cJ2_indexOfSupplementary_4cfef 13 = .ok (.iload_n 1, 1) := by decide +kernel
theorem dJ2_indexOfSupplementary_4cfef_14 : decode cJ2_indexOfSupplementary_4cfef 14 = .ok (.invokestatic 161, 3) := by decide +kernel
theorem dJ2_indexOfSupplementary_4cfef_17 : decode cJ2_indexOfSupplementary_4cfef 17 = .ok (.istore 5, 2) := by decide +kernel
theorem dJ2_indexOfSupplementary_4cfef_19 : decode cJ2_indexOfSupplementary_4cfef 19 = .ok (.iload_n 2, 1) := by decide +kernel
theorem dJ2_indexOfSupplementary_4cfef_20 : decode cJ2_indexOfSupplementary_4cfef 20 = .ok (.iload_n 3, 1) := by decide +kernel
theorem dJ2_indexOfSupplementary_4cfef_21 : decode cJ2_indexOfSupplementary_4cfef 21 = .ok (.aload_n 0, 1) := by decide +kernel
theorem dJ2_indexOfSupplementary_4cfef_22 : decode cJ2_indexOfSupplementary_4cfef 22 = .ok (.invokestatic 96, 3) := by decide +kernel
theorem dJ2_indexOfSupplementary_4cfef_25 : decode cJ2_indexOfSupplementary_4cfef 25 = .ok (.iload_n 2, 1) := by decide +kernel
theorem dJ2_indexOfSupplementary_4cfef_26 : decode cJ2_indexOfSupplementary_4cfef 26 = .ok (.istore 6, 2) := by decide +kernel
theorem dJ2_indexOfSupplementary_4cfef_28 : decode cJ2_indexOfSupplementary_4cfef 28 = .ok (.iload 6, 2) := by decide +kernel
theorem dJ2_indexOfSupplementary_4cfef_30 : decode cJ2_indexOfSupplementary_4cfef 30 = .ok (.iload_n 3, 1) := by decide +kernel
theorem dJ2_indexOfSupplementary_4cfef_31 : decode cJ2_indexOfSupplementary_4cfef 31 = .ok (.iconst 1, 1) := by decide +kernel
theorem dJ2_indexOfSupplementary_4cfef_32 : decode cJ2_indexOfSupplementary_4cfef 32 = .ok (.isub, 1) := by decide +kernel
theorem dJ2_indexOfSupplementary_4cfef_33 : decode cJ2_indexOfSupplementary_4cfef 33 = .ok (.if_icmp .ge 36, 3) := by decide +kernel
theorem dJ2_indexOfSupplementary_4cfef_36 : decode cJ2_indexOfSupplementary_4cfef 36 = .ok (.aload_n 0, 1) := by decide +kernel
theorem dJ2_indexOfSupplementary_4cfef_37 : decode cJ2_indexOfSupplementary_4cfef 37 = .ok (.iload 6, 2) := by decide +kernel
theorem dJ2_indexOfSupplementary_4cfef_39 : decode cJ2_indexOfSupplementary_4cfef 39 = .ok (.invokestatic 71, 3) := by decide +kernel
theorem dJ2_indexOfSupplementary_4cfef_42 : decode cJ2_indexOfSupplementary_4cfef 42 = .ok (.iload 4, 2) := by decide +kernel
theorem dJ2_indexOfSupplementary_4cfef_44 : decode cJ2_indexOfSupplementary_4cfef 44 = .ok (.if_icmp .ne 19, 3) := by decide +kernel
theorem dJ2_indexOfSupplementary_4cfef_47 : decode cJ2_indexOfSupplementary_4cfef 47 = .ok (.aload_n 0, 1) := by decide +kernel
theorem dJ2_indexOfSupplementary_4cfef_48 : decode cJ2_indexOfSupplementary_4cfef 48 = .ok (.iload 6, 2) := by decide +kernel
theorem dJ2_indexOfSupplementary_4cfef_50 : decode cJ2_indexOfSupplementary_4cfef 50 = .ok (.iconst 1, 1) := by decide +kernel
theorem dJ2_indexOfSupplementary_4cfef_51 : decode cJ2_indexOfSupplementary_4cfef 51 = .ok (.iadd, 1) := by decide +kernel
theorem dJ2_indexOfSupplementary_4cfef_52 : decode cJ2_indexOfSupplementary_4cfef 52 = .ok (.invokestatic 71, 3) := by decide +kernel
theorem dJ2_indexOfSupplementary_4cfef_55 : decode cJ2_indexOfSupplementary_4cfef 55 = .ok (.iload 5, 2) := by decide +kernel
theorem dJ2_indexOfSupplementary_4cfef_57 : decode cJ2_indexOfSupplementary_4cfef 57 = .ok (.if_icmp .ne 6, 3) := by decide +kernel
theorem dJ2_indexOfSupplementary_4cfef_60 : decode cJ2_indexOfSupplementary_4cfef 60 = .ok (.iload 6, 2) := by decide +kernel
theorem dJ2_indexOfSupplementary_4cfef_62 : decode cJ2_indexOfSupplementary_4cfef 62 = .ok (.ireturn, 1) := by decide +kernel
theorem dJ2_indexOfSupplementary_4cfef_63 : decode cJ2_indexOfSupplementary_4cfef 63 = .ok (.iinc 6 1, 3) := by decide +kernel
theorem dJ2_indexOfSupplementary_4cfef_66 : decode cJ2_indexOfSupplementary_4cfef 66 = .ok (.goto (-38), 3) := by decide +kernel
theorem dJ2_indexOfSupplementary_4cfef_69 : decode cJ2_indexOfSupplementary_4cfef 69 = .ok (.iconst (-1), 1) := by decide +kernel
theorem dJ2_indexOfSupplementary_4cfef_70 : decode cJ2_indexOfSupplementary_4cfef 70 = .ok (.ireturn, 1) := by decide +kernel
theorem dJ2_checkBoundsBeginEnd_d044e_0 : decode cJ2_checkBoundsBeginEnd_d044e 0 = .ok (.iload_n 0, 1) := by decide +kernel
theorem dJ2_checkBoundsBeginEnd_d044e_1 : decode cJ2_checkBoundsBeginEnd_d044e 1 = .ok (.iload_n 1, 1) := by decide +kernel
theorem dJ2_checkBoundsBeginEnd_d044e_2 : decode cJ2_checkBoundsBeginEnd_d044e 2 = .ok (.aload_n 2, 1) := by decide +kernel
theorem dJ2_checkBoundsBeginEnd_d044e_3 : decode cJ2_checkBoundsBeginEnd_d044e 3 = .ok (.invokestatic 48, 3) := by decide +kernel
theorem dJ2_checkBoundsBeginEnd_d044e_6 : decode cJ2_checkBoundsBeginEnd_d044e 6 = .ok (.invokestatic 241, 3) := by decide +kernel
theorem dJ2_checkBoundsBeginEnd_d044e_9 : decode cJ2_checkBoundsBeginEnd_d044e 9 = .ok (.return_, 1) := by decide +kernel
theorem dJ7_fill_53178_0 : decode cJ7_fill_53178 0 = .ok (.iconst 0, 1) := by decide +kernel
theorem dJ7_fill_53178_1 : decode cJ7_fill_53178 1 = .ok (.istore_n 2, 1) := by decide +kernel
theorem dJ7_fill_53178_2 : decode cJ7_fill_53178 2 = .ok (.aload_n 0, 1) := by decide +kernel
theorem dJ7_fill_53178_3 : decode cJ7_fill_53178 3 = .ok (.arraylength, 1) := by decide +kernel
theorem dJ7_fill_53178_4 : decode cJ7_fill_53178 4 = .ok (.istore_n 3, 1) := by decide +kernel
theorem dJ7_fill_53178_5 : decode cJ7_fill_53178 5 = .ok (.iload_n 2, 1) := by decide +kernel
theorem dJ7_fill_53178_6 : decode cJ7_fill_53178 6 = .ok (.iload_n 3, 1) := by decide +kernel
theorem dJ7_fill_53178_7 : decode cJ7_fill_53178 7 = .ok (.if_icmp .ge 13, 3) := by decide +kernel
theorem dJ7_fill_53178_10 : decode cJ7_fill_53178 10 = .ok (.aload_n 0, 1) := by decide +kernel
theorem dJ7_fill_53178_11 : decode cJ7_fill_53178 11 = .ok (.iload_n 2, 1) := by decide +kernel
theorem dJ7_fill_53178_12 : decode cJ7_fill_53178 12 = .ok (.iload_n 1, 1) := by decide +kernel
theorem dJ7_fill_53178_13 : decode cJ7_fill_53178 13 = .ok (.iastore, 1) := by decide +kernel
theorem dJ7_fill_53178_14 : decode cJ7_fill_53178 14 = .ok (.iinc 2 1, 3) := by decide +kernel
theorem dJ7_fill_53178_17 : decode cJ7_fill_53178 17 = .ok (.goto (-12), 3) := by decide +kernel
theorem dJ7_fill_53178_20 : decode cJ7_fill_53178 20 = .ok (.return_, 1) := by decide +kernel
theorem dJ3_checkFromToIndex_8c36e_0 : decode cJ3_checkFromToIndex_8c36e 0 = .ok (.iload_n 0, 1) := by decide +kernel
theorem dJ3_checkFromToIndex_8c36e_1 : decode cJ3_checkFromToIndex_8c36e 1 = .ok (.ifCond .lt 13, 3) := by decide +kernel
theorem dJ3_checkFromToIndex_8c36e_4 : decode cJ3_checkFromToIndex_8c36e 4 = .ok (.iload_n 0, 1) := by decide +kernel
theorem dJ3_checkFromToIndex_8c36e_5 : decode cJ3_checkFromToIndex_8c36e 5 = .ok (.iload_n 1, 1) := by decide +kernel
theorem dJ3_checkFromToIndex_8c36e_6 : decode cJ3_checkFromToIndex_8c36e 6 = .ok (.if_icmp .gt 8, 3) := by decide +kernel
theorem dJ3_checkFromToIndex_8c36e_9 : decode cJ3_checkFromToIndex_8c36e 9 = .ok (.iload_n 1, 1) := by decide +kernel
theorem dJ3_checkFromToIndex_8c36e_10 : decode cJ3_checkFromToIndex_8c36e 10 = .ok (.iload_n 2, 1) := by decide +kernel
theorem dJ3_checkFromToIndex_8c36e_11 : decode cJ3_checkFromToIndex_8c36e 11 = .ok (.if_icmp .le 11, 3) := by decide +kernel
theorem dJ3_checkFromToIndex_8c36e_14 : decode cJ3_checkFromToIndex_8c36e 14 = .ok (.aload_n 3, 1) := by decide +kernel
theorem dJ3_checkFromToIndex_8c36e_15 : decode cJ3_checkFromToIndex_8c36e 15 = .ok (.iload_n 0, 1) := by decide +kernel
theorem dJ3_checkFromToIndex_8c36e_16 : decode cJ3_checkFromToIndex_8c36e 16 = .ok (.iload_n 1, 1) := by decide +kernel
theorem dJ3_checkFromToIndex_8c36e_17 : decode cJ3_checkFromToIndex_8c36e 17 = .ok (.iload_n 2, 1) := by decide +kernel
theorem dJ3_checkFromToIndex_8c36e_18 : decode cJ3_checkFromToIndex_8c36e 18 = .ok (.invokestatic 99, 3) := by decide +kernel
theorem dJ3_checkFromToIndex_8c36e_21 : decode cJ3_checkFromToIndex_8c36e 21 = .ok (.athrow, 1) := by decide +kernel
theorem dJ3_checkFromToIndex_8c36e_22 : decode cJ3_checkFromToIndex_8c36e 22 = .ok (.iload_n 0, 1) := by decide +kernel
theorem dJ3_checkFromToIndex_8c36e_23 : decode cJ3_checkFromToIndex_8c36e 23 = .ok (.ireturn, 1) := by decide +kernel
theorem dL_insertLeft_0 : decode cL_insertLeft 0 = .ok (.aload 4, 2) := by decide +kernel
theorem dL_insertLeft_2 : decode cL_insertLeft 2 = .ok (.iconst 0, 1) := by decide +kernel
theorem dL_insertLeft_3 : decode cL_insertLeft 3 = .ok (.aload_n 0, 1) := by decide +kernel
theorem dL_insertLeft_4 : decode cL_insertLeft 4 = .ok (.iload_n 1, 1) := by decide +kernel
theorem dL_insertLeft_5 : decode cL_insertLeft 5 = .ok (.iload_n 2, 1) := by decide +kernel
theorem dL_insertLeft_6 : decode cL_insertLeft 6 = .ok (.iload_n 3, 1) := by decide +kernel
theorem dL_insertLeft_7 : decode cL_insertLeft 7 = .ok (.invokevirtual 7, 3) := by decide +kernel
theorem dL_insertLeft_10 : decode cL_insertLeft 10 = .ok (.i2l, 1) := by decide +kernel
theorem dL_insertLeft_11 : decode cL_insertLeft 11 = .ok (.lastore, 1) := by decide +kernel
theorem dL_insertLeft_12 : decode cL_insertLeft 12 = .ok (.goto 11, 3) := by decide +kernel
theorem dL_insertLeft_15 : decode cL_insertLeft 15 = .ok (.astore 5, 2) := by decide +kernel
theorem dL_insertLeft_17 : decode cL_insertLeft 17 = .ok (.iconst 1, 1) := by decide +kernel
theorem dL_insertLeft_18 : decode cL_insertLeft 18 = .ok (.ireturn, 1) := by decide +kernel
theorem dL_insertLeft_19 : decode cL_insertLeft 19 = .ok (.astore 5, 2) := by decide +kernel
theorem dL_insertLeft_21 : decode cL_insertLeft 21 = .ok (.iconst 2, 1) := by decide +kernel
theorem dL_insertLeft_22 : decode cL_insertLeft 22 = .ok (.ireturn, 1) := by decide +kernel
theorem dL_insertLeft_23 : decode cL_insertLeft 23 = .ok (.iconst 0, 1) := by decide +kernel
theorem dL_insertLeft_24 : decode cL_insertLeft 24 = .ok (.ireturn, 1) := by decide +kernel
theorem dL_deleteLeft_0 : decode cL_deleteLeft 0 = .ok (.aload 4, 2) := by decide +kernel
theorem dL_deleteLeft_2 : decode cL_deleteLeft 2 = .ok (.iconst 0, 1) := by decide +kernel
theorem dL_deleteLeft_3 : decode cL_deleteLeft 3 = .ok (.aload_n 0, 1) := by decide +kernel
theorem dL_deleteLeft_4 : decode cL_deleteLeft 4 = .ok (.iload_n 1, 1) := by decide +kernel
theorem dL_deleteLeft_5 : decode cL_deleteLeft 5 = .ok (.iload_n 2, 1) := by decide +kernel
theorem dL_deleteLeft_6 : decode cL_deleteLeft 6 = .ok (.iload_n 3, 1) := by decide +kernel
theorem dL_deleteLeft_7 : decode cL_deleteLeft 7 = .ok (.invokevirtual 17, 3) := by decide +kernel
theorem dL_deleteLeft_10 : decode cL_deleteLeft 10 = .ok (.i2l, 1) := by decide +kernel
theorem dL_deleteLeft_11 : decode cL_deleteLeft 11 = .ok (.lastore, 1) := by decide +kernel
theorem dL_deleteLeft_12 : decode cL_deleteLeft 12 = .ok (.goto 15, 3) := by decide +kernel
theorem dL_deleteLeft_15 : decode cL_deleteLeft 15 = .ok (.astore 5, 2) := by decide +kernel
theorem dL_deleteLeft_17 : decode cL_deleteLeft 17 = .ok (.iconst 1, 1) := by decide +kernel
theorem dL_deleteLeft_18 : decode cL_deleteLeft 18 = .ok (.ireturn, 1) := by decide +kernel
theorem dL_deleteLeft_19 : decode cL_deleteLeft 19 = .ok (.astore 5, 2) := by decide +kernel
theorem dL_deleteLeft_21 : decode cL_deleteLeft 21 = .ok (.iconst 2, 1) := by decide +kernel
theorem dL_deleteLeft_22 : decode cL_deleteLeft 22 = .ok (.ireturn, 1) := by decide +kernel
theorem dL_deleteLeft_23 : decode cL_deleteLeft 23 = .ok (.astore 5, 2) := by decide +kernel
theorem dL_deleteLeft_25 : decode cL_deleteLeft 25 = .ok (.iconst 3, 1) := by decide +kernel
theorem dL_deleteLeft_26 : decode cL_deleteLeft 26 = .ok (.ireturn, 1) := by decide +kernel
theorem dL_deleteLeft_27 : decode cL_deleteLeft 27 = .ok (.iconst 0, 1) := by decide +kernel
theorem dL_deleteLeft_28 : decode cL_deleteLeft 28 = .ok (.ireturn, 1) := by decide +kernel
theorem dL_insertRight_0 : decode cL_insertRight 0 = .ok (.aload_n 3, 1) := by decide +kernel
theorem dL_insertRight_1 : decode cL_insertRight 1 = .ok (.iconst 0, 1) := by decide +kernel
theorem dL_insertRight_2 : decode cL_insertRight 2 = .ok (.aload_n 0, 1) := by decide +kernel
theorem dL_insertRight_3 : decode cL_insertRight 3 = .ok (.iload_n 1, 1) := by decide +kernel
theorem dL_insertRight_4 : decode cL_insertRight 4 = .ok (.iload_n 2, 1) := by decide +kernel
theorem dL_insertRight_5 : decode cL_insertRight 5 = .ok (.invokevirtual 22, 3) := by decide +kernel
theorem dL_insertRight_8 : decode cL_insertRight 8 = .ok (.i2l, 1) := by decide +kernel
theorem dL_insertRight_9 : decode cL_insertRight 9 = .ok (.lastore, 1) := by decide +kernel
theorem dL_insertRight_10 : decode cL_insertRight 10 = .ok (.goto 11, 3) := by decide +kernel
theorem dL_insertRight_13 : decode cL_insertRight 13 = .ok (.astore 4, 2) := by decide +kernel
theorem dL_insertRight_15 : decode cL_insertRight 15 = .ok (.iconst 1, 1) := by decide +kernel
theorem dL_insertRight_16 : decode cL_insertRight 16 = .ok (.ireturn, 1) := by decide +kernel
theorem dL_insertRight_17 : decode cL_insertRight 17 = .ok (.astore 4, 2) := by decide +kernel
theorem dL_insertRight_19 : decode cL_insertRight 19 = .ok (.iconst 2, 1) := by decide +kernel
theorem dL_insertRight_20 : decode cL_insertRight 20 = .ok (.ireturn, 1) := by decide +kernel
theorem dL_insertRight_21 : decode cL_insertRight 21 = .ok (.iconst 0, 1) := by decide +kernel
theorem dL_insertRight_22 : decode cL_insertRight 22 = .ok (.ireturn, 1) := by decide +kernel
theorem dL_deleteRight_0 : decode cL_deleteRight 0 = .ok (.aload_n 3, 1) := by decide +kernel
theorem dL_deleteRight_1 : decode cL_deleteRight 1 = .ok (.iconst 0, 1) := by decide +kernel
theorem dL_deleteRight_2 : decode cL_deleteRight 2 = .ok (.aload_n 0, 1) := by decide +kernel
theorem dL_deleteRight_3 : decode cL_deleteRight 3 = .ok (.iload_n 1, 1) := by decide +kernel
theorem dL_deleteRight_4 : decode cL_deleteRight 4 = .ok (.iload_n 2, 1) := by decide +kernel
theorem dL_deleteRight_5 : decode cL_deleteRight 5 = .ok (.invokevirtual 26, 3) := by decide +kernel
theorem dL_deleteRight_8 : decode cL_deleteRight 8 = .ok (.i2l, 1) := by decide +kernel
theorem dL_deleteRight_9 : decode cL_deleteRight 9 = .ok (.lastore, 1) := by decide +kernel
theorem dL_deleteRight_10 : decode cL_deleteRight 10 = .ok (.goto 15, 3) := by decide +kernel
theorem dL_deleteRight_13 : decode cL_deleteRight 13 = .ok (.astore 4, 2) := by decide +kernel
theorem dL_deleteRight_15 : decode cL_deleteRight 15 = .ok (.iconst 1, 1) := by decide +kernel
theorem dL_deleteRight_16 : decode cL_deleteRight 16 = .ok (.ireturn, 1) := by decide +kernel
theorem dL_deleteRight_17 : decode cL_deleteRight 17 = .ok (.astore 4, 2) := by decide +kernel
theorem dL_deleteRight_19 : decode cL_deleteRight 19 = .ok (.iconst 2, 1) := by decide +kernel
theorem dL_deleteRight_20 : decode cL_deleteRight 20 = .ok (.ireturn, 1) := by decide +kernel
theorem dL_deleteRight_21 : decode cL_deleteRight 21 = .ok (.astore 4, 2) := by decide +kernel
theorem dL_deleteRight_23 : decode cL_deleteRight 23 = .ok (.iconst 3, 1) := by decide +kernel
theorem dL_deleteRight_24 : decode cL_deleteRight 24 = .ok (.ireturn, 1) := by decide +kernel
theorem dL_deleteRight_25 : decode cL_deleteRight 25 = .ok (.iconst 0, 1) := by decide +kernel
theorem dL_deleteRight_26 : decode cL_deleteRight 26 = .ok (.ireturn, 1) := by decide +kernel
theorem dL_rollback_0 : decode cL_rollback 0 = .ok (.aload_n 1, 1) := by decide +kernel
theorem dL_rollback_1 : decode cL_rollback 1 = .ok (.iconst 0, 1) := by decide +kernel
theorem dL_rollback_2 : decode cL_rollback 2 = .ok (.aload_n 0, 1) := by decide +kernel
theorem dL_rollback_3 : decode cL_rollback 3 = .ok (.invokevirtual 29, 3) := by decide +kernel
theorem dL_rollback_6 : decode cL_rollback 6 = .ok (.i2l, 1) := by decide +kernel
theorem dL_rollback_7 : decode cL_rollback 7 = .ok (.lastore, 1) := by decide +kernel
theorem dL_rollback_8 : decode cL_rollback 8 = .ok (.goto 6, 3) := by decide +kernel
theorem dL_rollback_11 : decode cL_rollback 11 = .ok (.astore_n 2, 1) := by decide +kernel
theorem dL_rollback_12 : decode cL_rollback 12 = .ok (.iconst 1, 1) := by decide +kernel
theorem dL_rollback_13 : decode cL_rollback 13 = .ok (.ireturn, 1) := by decide +kernel
theorem dL_rollback_14 : decode cL_rollback 14 = .ok (.iconst 0, 1) := by decide +kernel
theorem dL_rollback_15 : decode cL_rollback 15 = .ok (.ireturn, 1) := by decide +kernel
theorem dL_leftCount_0 : decode cL_leftCount 0 = .ok (.aload 4, 2) := by decide +kernel
theorem dL_leftCount_2 : decode cL_leftCount 2 = .ok (.iconst 0, 1) := by decide +kernel
theorem dL_leftCount_3 : decode cL_leftCount 3 = .ok (.aload_n 0, 1) := by decide +kernel
theorem dL_leftCount_4 : decode cL_leftCount 4 = .ok (.iload_n 1, 1) := by decide +kernel
theorem dL_leftCount_5 : decode cL_leftCount 5 = .ok (.iload_n 2, 1) := by decide +kernel
theorem dL_leftCount_6 : decode cL_leftCount 6 = .ok (.iload_n 3, 1) := by decide +kernel
theorem dL_leftCount_7 : decode cL_leftCount 7 = .ok (.invokevirtual 33, 3) := by decide +kernel
theorem dL_leftCount_10 : decode cL_leftCount 10 = .ok (.i2l, 1) := by decide +kernel
theorem dL_leftCount_11 : decode cL_leftCount 11 = .ok (.lastore, 1) := by decide +kernel
theorem dL_leftCount_12 : decode cL_leftCount 12 = .ok (.goto 7, 3) := by decide +kernel
theorem dL_leftCount_15 : decode cL_leftCount 15 = .ok (.astore 5, 2) := by decide +kernel
theorem dL_leftCount_17 : decode cL_leftCount 17 = .ok (.iconst 1, 1) := by decide +kernel
theorem dL_leftCount_18 : decode cL_leftCount 18 = .ok (.ireturn, 1) := by decide +kernel
theorem dL_leftCount_19 : decode cL_leftCount 19 = .ok (.iconst 0, 1) := by decide +kernel
theorem dL_leftCount_20 : decode cL_leftCount 20 = .ok (.ireturn, 1) := by decide +kernel
theorem dL_rightCount_0 : decode cL_rightCount 0 = .ok (.aload_n 3, 1) := by decide +kernel
theorem dL_rightCount_1 : decode cL_rightCount 1 = .ok (.iconst 0, 1) := by decide +kernel
theorem dL_rightCount_2 : decode cL_rightCount 2 = .ok (.aload_n 0, 1) := by decide +kernel
theorem dL_rightCount_3 : decode cL_rightCount 3 = .ok (.iload_n 1, 1) := by decide +kernel
theorem dL_rightCount_4 : decode cL_rightCount 4 = .ok (.iload_n 2, 1) := by decide +kernel
theorem dL_rightCount_5 : decode cL_rightCount 5 = .ok (.invokevirtual 36, 3) := by decide +kernel
theorem dL_rightCount_8 : decode cL_rightCount 8 = .ok (.i2l, 1) := by decide +kernel
theorem dL_rightCount_9 : decode cL_rightCount 9 = .ok (.lastore, 1) := by decide +kernel
theorem dL_rightCount_10 : decode cL_rightCount 10 = .ok (.goto 7, 3) := by decide +kernel
theorem dL_rightCount_13 : decode cL_rightCount 13 = .ok (.astore 4, 2) := by decide +kernel
theorem dL_rightCount_15 : decode cL_rightCount 15 = .ok (.iconst 1, 1) := by decide +kernel
theorem dL_rightCount_16 : decode cL_rightCount 16 = .ok (.ireturn, 1) := by decide +kernel
theorem dL_rightCount_17 : decode cL_rightCount 17 = .ok (.iconst 0, 1) := by decide +kernel
theorem dL_rightCount_18 : decode cL_rightCount 18 = .ok (.ireturn, 1) := by decide +kernel
theorem dL_joinRow_0 : decode cL_joinRow 0 = .ok (.aload_n 3, 1) := by decide +kernel
theorem dL_joinRow_1 : decode cL_joinRow 1 = .ok (.iconst 0, 1) := by decide +kernel
theorem dL_joinRow_2 : decode cL_joinRow 2 = .ok (.aload_n 0, 1) := by decide +kernel
theorem dL_joinRow_3 : decode cL_joinRow 3 = .ok (.iload_n 1, 1) := by decide +kernel
theorem dL_joinRow_4 : decode cL_joinRow 4 = .ok (.iload_n 2, 1) := by decide +kernel
theorem dL_joinRow_5 : decode cL_joinRow 5 = .ok (.invokevirtual 39, 3) := by decide +kernel
theorem dL_joinRow_8 : decode cL_joinRow 8 = .ok (.i2l, 1) := by decide +kernel
theorem dL_joinRow_9 : decode cL_joinRow 9 = .ok (.lastore, 1) := by decide +kernel
theorem dL_joinRow_10 : decode cL_joinRow 10 = .ok (.goto 7, 3) := by decide +kernel
theorem dL_joinRow_13 : decode cL_joinRow 13 = .ok (.astore 4, 2) := by decide +kernel
theorem dL_joinRow_15 : decode cL_joinRow 15 = .ok (.iconst 1, 1) := by decide +kernel
theorem dL_joinRow_16 : decode cL_joinRow 16 = .ok (.ireturn, 1) := by decide +kernel
theorem dL_joinRow_17 : decode cL_joinRow 17 = .ok (.iconst 0, 1) := by decide +kernel
theorem dL_joinRow_18 : decode cL_joinRow 18 = .ok (.ireturn, 1) := by decide +kernel
theorem dL_danglingRow_0 : decode cL_danglingRow 0 = .ok (.aload_n 3, 1) := by decide +kernel
theorem dL_danglingRow_1 : decode cL_danglingRow 1 = .ok (.iconst 0, 1) := by decide +kernel
theorem dL_danglingRow_2 : decode cL_danglingRow 2 = .ok (.aload_n 0, 1) := by decide +kernel
theorem dL_danglingRow_3 : decode cL_danglingRow 3 = .ok (.iload_n 1, 1) := by decide +kernel
theorem dL_danglingRow_4 : decode cL_danglingRow 4 = .ok (.iload_n 2, 1) := by decide +kernel
theorem dL_danglingRow_5 : decode cL_danglingRow 5 = .ok (.invokevirtual 44, 3) := by decide +kernel
theorem dL_danglingRow_8 : decode cL_danglingRow 8 = .ok (.i2l, 1) := by decide +kernel
theorem dL_danglingRow_9 : decode cL_danglingRow 9 = .ok (.lastore, 1) := by decide +kernel
theorem dL_danglingRow_10 : decode cL_danglingRow 10 = .ok (.goto 7, 3) := by decide +kernel
theorem dL_danglingRow_13 : decode cL_danglingRow 13 = .ok (.astore 4, 2) := by decide +kernel
theorem dL_danglingRow_15 : decode cL_danglingRow 15 = .ok (.iconst 1, 1) := by decide +kernel
theorem dL_danglingRow_16 : decode cL_danglingRow 16 = .ok (.ireturn, 1) := by decide +kernel
theorem dL_danglingRow_17 : decode cL_danglingRow 17 = .ok (.iconst 0, 1) := by decide +kernel
theorem dL_danglingRow_18 : decode cL_danglingRow 18 = .ok (.ireturn, 1) := by decide +kernel
theorem dL_groupSize_0 : decode cL_groupSize 0 = .ok (.aload_n 2, 1) := by decide +kernel
theorem dL_groupSize_1 : decode cL_groupSize 1 = .ok (.iconst 0, 1) := by decide +kernel
theorem dL_groupSize_2 : decode cL_groupSize 2 = .ok (.aload_n 0, 1) := by decide +kernel
theorem dL_groupSize_3 : decode cL_groupSize 3 = .ok (.iload_n 1, 1) := by decide +kernel
theorem dL_groupSize_4 : decode cL_groupSize 4 = .ok (.invokevirtual 47, 3) := by decide +kernel
theorem dL_groupSize_7 : decode cL_groupSize 7 = .ok (.i2l, 1) := by decide +kernel
theorem dL_groupSize_8 : decode cL_groupSize 8 = .ok (.lastore, 1) := by decide +kernel
theorem dL_groupSize_9 : decode cL_groupSize 9 = .ok (.goto 6, 3) := by decide +kernel
theorem dL_groupSize_12 : decode cL_groupSize 12 = .ok (.astore_n 3, 1) := by decide +kernel
theorem dL_groupSize_13 : decode cL_groupSize 13 = .ok (.iconst 1, 1) := by decide +kernel
theorem dL_groupSize_14 : decode cL_groupSize 14 = .ok (.ireturn, 1) := by decide +kernel
theorem dL_groupSize_15 : decode cL_groupSize 15 = .ok (.iconst 0, 1) := by decide +kernel
theorem dL_groupSize_16 : decode cL_groupSize 16 = .ok (.ireturn, 1) := by decide +kernel
theorem dL_groupSum_0 : decode cL_groupSum 0 = .ok (.aload_n 2, 1) := by decide +kernel
theorem dL_groupSum_1 : decode cL_groupSum 1 = .ok (.iconst 0, 1) := by decide +kernel
theorem dL_groupSum_2 : decode cL_groupSum 2 = .ok (.aload_n 0, 1) := by decide +kernel
theorem dL_groupSum_3 : decode cL_groupSum 3 = .ok (.iload_n 1, 1) := by decide +kernel
theorem dL_groupSum_4 : decode cL_groupSum 4 = .ok (.invokevirtual 51, 3) := by decide +kernel
theorem dL_groupSum_7 : decode cL_groupSum 7 = .ok (.i2l, 1) := by decide +kernel
theorem dL_groupSum_8 : decode cL_groupSum 8 = .ok (.lastore, 1) := by decide +kernel
theorem dL_groupSum_9 : decode cL_groupSum 9 = .ok (.goto 6, 3) := by decide +kernel
theorem dL_groupSum_12 : decode cL_groupSum 12 = .ok (.astore_n 3, 1) := by decide +kernel
theorem dL_groupSum_13 : decode cL_groupSum 13 = .ok (.iconst 1, 1) := by decide +kernel
theorem dL_groupSum_14 : decode cL_groupSum 14 = .ok (.ireturn, 1) := by decide +kernel
theorem dL_groupSum_15 : decode cL_groupSum 15 = .ok (.iconst 0, 1) := by decide +kernel
theorem dL_groupSum_16 : decode cL_groupSum 16 = .ok (.ireturn, 1) := by decide +kernel
theorem dL_groupMinimum_0 : decode cL_groupMinimum 0 = .ok (.aload_n 2, 1) := by decide +kernel
theorem dL_groupMinimum_1 : decode cL_groupMinimum 1 = .ok (.iconst 0, 1) := by decide +kernel
theorem dL_groupMinimum_2 : decode cL_groupMinimum 2 = .ok (.aload_n 0, 1) := by decide +kernel
theorem dL_groupMinimum_3 : decode cL_groupMinimum 3 = .ok (.iload_n 1, 1) := by decide +kernel
theorem dL_groupMinimum_4 : decode cL_groupMinimum 4 = .ok (.invokevirtual 54, 3) := by decide +kernel
theorem dL_groupMinimum_7 : decode cL_groupMinimum 7 = .ok (.i2l, 1) := by decide +kernel
theorem dL_groupMinimum_8 : decode cL_groupMinimum 8 = .ok (.lastore, 1) := by decide +kernel
theorem dL_groupMinimum_9 : decode cL_groupMinimum 9 = .ok (.goto 9, 3) := by decide +kernel
theorem dL_groupMinimum_12 : decode cL_groupMinimum 12 = .ok (.astore_n 3, 1) := by decide +kernel
theorem dL_groupMinimum_13 : decode cL_groupMinimum 13 = .ok (.iconst 1, 1) := by decide +kernel
theorem dL_groupMinimum_14 : decode cL_groupMinimum 14 = .ok (.ireturn, 1) := by decide +kernel
theorem dL_groupMinimum_15 : decode cL_groupMinimum 15 = .ok (.astore_n 3, 1) := by decide +kernel
theorem dL_groupMinimum_16 : decode cL_groupMinimum 16 = .ok (.iconst 2, 1) := by decide +kernel
theorem dL_groupMinimum_17 : decode cL_groupMinimum 17 = .ok (.ireturn, 1) := by decide +kernel
theorem dL_groupMinimum_18 : decode cL_groupMinimum 18 = .ok (.iconst 0, 1) := by decide +kernel
theorem dL_groupMinimum_19 : decode cL_groupMinimum 19 = .ok (.ireturn, 1) := by decide +kernel
theorem dL_groupMaximum_0 : decode cL_groupMaximum 0 = .ok (.aload_n 2, 1) := by decide +kernel
theorem dL_groupMaximum_1 : decode cL_groupMaximum 1 = .ok (.iconst 0, 1) := by decide +kernel
theorem dL_groupMaximum_2 : decode cL_groupMaximum 2 = .ok (.aload_n 0, 1) := by decide +kernel
theorem dL_groupMaximum_3 : decode cL_groupMaximum 3 = .ok (.iload_n 1, 1) := by decide +kernel
theorem dL_groupMaximum_4 : decode cL_groupMaximum 4 = .ok (.invokevirtual 57, 3) := by decide +kernel
theorem dL_groupMaximum_7 : decode cL_groupMaximum 7 = .ok (.i2l, 1) := by decide +kernel
theorem dL_groupMaximum_8 : decode cL_groupMaximum 8 = .ok (.lastore, 1) := by decide +kernel
theorem dL_groupMaximum_9 : decode cL_groupMaximum 9 = .ok (.goto 9, 3) := by decide +kernel
theorem dL_groupMaximum_12 : decode cL_groupMaximum 12 = .ok (.astore_n 3, 1) := by decide +kernel
theorem dL_groupMaximum_13 : decode cL_groupMaximum 13 = .ok (.iconst 1, 1) := by decide +kernel
theorem dL_groupMaximum_14 : decode cL_groupMaximum 14 = .ok (.ireturn, 1) := by decide +kernel
theorem dL_groupMaximum_15 : decode cL_groupMaximum 15 = .ok (.astore_n 3, 1) := by decide +kernel
theorem dL_groupMaximum_16 : decode cL_groupMaximum 16 = .ok (.iconst 2, 1) := by decide +kernel
theorem dL_groupMaximum_17 : decode cL_groupMaximum 17 = .ok (.ireturn, 1) := by decide +kernel
theorem dL_groupMaximum_18 : decode cL_groupMaximum 18 = .ok (.iconst 0, 1) := by decide +kernel
theorem dL_groupMaximum_19 : decode cL_groupMaximum 19 = .ok (.ireturn, 1) := by decide +kernel
theorem dL_groupDistinct_0 : decode cL_groupDistinct 0 = .ok (.aload_n 2, 1) := by decide +kernel
theorem dL_groupDistinct_1 : decode cL_groupDistinct 1 = .ok (.iconst 0, 1) := by decide +kernel
theorem dL_groupDistinct_2 : decode cL_groupDistinct 2 = .ok (.aload_n 0, 1) := by decide +kernel
theorem dL_groupDistinct_3 : decode cL_groupDistinct 3 = .ok (.iload_n 1, 1) := by decide +kernel
theorem dL_groupDistinct_4 : decode cL_groupDistinct 4 = .ok (.invokevirtual 60, 3) := by decide +kernel
theorem dL_groupDistinct_7 : decode cL_groupDistinct 7 = .ok (.i2l, 1) := by decide +kernel
theorem dL_groupDistinct_8 : decode cL_groupDistinct 8 = .ok (.lastore, 1) := by decide +kernel
theorem dL_groupDistinct_9 : decode cL_groupDistinct 9 = .ok (.goto 6, 3) := by decide +kernel
theorem dL_groupDistinct_12 : decode cL_groupDistinct 12 = .ok (.astore_n 3, 1) := by decide +kernel
theorem dL_groupDistinct_13 : decode cL_groupDistinct 13 = .ok (.iconst 1, 1) := by decide +kernel
theorem dL_groupDistinct_14 : decode cL_groupDistinct 14 = .ok (.ireturn, 1) := by decide +kernel
theorem dL_groupDistinct_15 : decode cL_groupDistinct 15 = .ok (.iconst 0, 1) := by decide +kernel
theorem dL_groupDistinct_16 : decode cL_groupDistinct 16 = .ok (.ireturn, 1) := by decide +kernel
theorem dL_groupElement_0 : decode cL_groupElement 0 = .ok (.aload_n 3, 1) := by decide +kernel
theorem dL_groupElement_1 : decode cL_groupElement 1 = .ok (.iconst 0, 1) := by decide +kernel
theorem dL_groupElement_2 : decode cL_groupElement 2 = .ok (.aload_n 0, 1) := by decide +kernel
theorem dL_groupElement_3 : decode cL_groupElement 3 = .ok (.iload_n 1, 1) := by decide +kernel
theorem dL_groupElement_4 : decode cL_groupElement 4 = .ok (.iload_n 2, 1) := by decide +kernel
theorem dL_groupElement_5 : decode cL_groupElement 5 = .ok (.invokevirtual 63, 3) := by decide +kernel
theorem dL_groupElement_8 : decode cL_groupElement 8 = .ok (.i2l, 1) := by decide +kernel
theorem dL_groupElement_9 : decode cL_groupElement 9 = .ok (.lastore, 1) := by decide +kernel
theorem dL_groupElement_10 : decode cL_groupElement 10 = .ok (.goto 11, 3) := by decide +kernel
theorem dL_groupElement_13 : decode cL_groupElement 13 = .ok (.astore 4, 2) := by decide +kernel
theorem dL_groupElement_15 : decode cL_groupElement 15 = .ok (.iconst 1, 1) := by decide +kernel
theorem dL_groupElement_16 : decode cL_groupElement 16 = .ok (.ireturn, 1) := by decide +kernel
theorem dL_groupElement_17 : decode cL_groupElement 17 = .ok (.astore 4, 2) := by decide +kernel
theorem dL_groupElement_19 : decode cL_groupElement 19 = .ok (.iconst 2, 1) := by decide +kernel
theorem dL_groupElement_20 : decode cL_groupElement 20 = .ok (.ireturn, 1) := by decide +kernel
theorem dL_groupElement_21 : decode cL_groupElement 21 = .ok (.iconst 0, 1) := by decide +kernel
theorem dL_groupElement_22 : decode cL_groupElement 22 = .ok (.ireturn, 1) := by decide +kernel
theorem dL_groupAverage_0 : decode cL_groupAverage 0 = .ok (.aload_n 2, 1) := by decide +kernel
theorem dL_groupAverage_1 : decode cL_groupAverage 1 = .ok (.iconst 0, 1) := by decide +kernel
theorem dL_groupAverage_2 : decode cL_groupAverage 2 = .ok (.aload_n 0, 1) := by decide +kernel
theorem dL_groupAverage_3 : decode cL_groupAverage 3 = .ok (.iload_n 1, 1) := by decide +kernel
theorem dL_groupAverage_4 : decode cL_groupAverage 4 = .ok (.invokevirtual 66, 3) := by decide +kernel
theorem dL_groupAverage_7 : decode cL_groupAverage 7 = .ok (.dastore, 1) := by decide +kernel
theorem dL_groupAverage_8 : decode cL_groupAverage 8 = .ok (.goto 9, 3) := by decide +kernel
theorem dL_groupAverage_11 : decode cL_groupAverage 11 = .ok (.astore_n 3, 1) := by decide +kernel
theorem dL_groupAverage_12 : decode cL_groupAverage 12 = .ok (.iconst 1, 1) := by decide +kernel
theorem dL_groupAverage_13 : decode cL_groupAverage 13 = .ok (.ireturn, 1) := by decide +kernel
theorem dL_groupAverage_14 : decode cL_groupAverage 14 = .ok (.astore_n 3, 1) := by decide +kernel
theorem dL_groupAverage_15 : decode cL_groupAverage 15 = .ok (.iconst 2, 1) := by decide +kernel
theorem dL_groupAverage_16 : decode cL_groupAverage 16 = .ok (.ireturn, 1) := by decide +kernel
theorem dL_groupAverage_17 : decode cL_groupAverage 17 = .ok (.iconst 0, 1) := by decide +kernel
theorem dL_groupAverage_18 : decode cL_groupAverage 18 = .ok (.ireturn, 1) := by decide +kernel
theorem dL_rankedGroup_0 : decode cL_rankedGroup 0 = .ok (.aload_n 2, 1) := by decide +kernel
theorem dL_rankedGroup_1 : decode cL_rankedGroup 1 = .ok (.iconst 0, 1) := by decide +kernel
theorem dL_rankedGroup_2 : decode cL_rankedGroup 2 = .ok (.aload_n 0, 1) := by decide +kernel
theorem dL_rankedGroup_3 : decode cL_rankedGroup 3 = .ok (.iload_n 1, 1) := by decide +kernel
theorem dL_rankedGroup_4 : decode cL_rankedGroup 4 = .ok (.invokevirtual 70, 3) := by decide +kernel
theorem dL_rankedGroup_7 : decode cL_rankedGroup 7 = .ok (.i2l, 1) := by decide +kernel
theorem dL_rankedGroup_8 : decode cL_rankedGroup 8 = .ok (.lastore, 1) := by decide +kernel
theorem dL_rankedGroup_9 : decode cL_rankedGroup 9 = .ok (.goto 6, 3) := by decide +kernel
theorem dL_rankedGroup_12 : decode cL_rankedGroup 12 = .ok (.astore_n 3, 1) := by decide +kernel
theorem dL_rankedGroup_13 : decode cL_rankedGroup 13 = .ok (.iconst 1, 1) := by decide +kernel
theorem dL_rankedGroup_14 : decode cL_rankedGroup 14 = .ok (.ireturn, 1) := by decide +kernel
theorem dL_rankedGroup_15 : decode cL_rankedGroup 15 = .ok (.iconst 0, 1) := by decide +kernel
theorem dL_rankedGroup_16 : decode cL_rankedGroup 16 = .ok (.ireturn, 1) := by decide +kernel
theorem dL_changeRow_0 : decode cL_changeRow 0 = .ok (.aload_n 3, 1) := by decide +kernel
theorem dL_changeRow_1 : decode cL_changeRow 1 = .ok (.iconst 0, 1) := by decide +kernel
theorem dL_changeRow_2 : decode cL_changeRow 2 = .ok (.aload_n 0, 1) := by decide +kernel
theorem dL_changeRow_3 : decode cL_changeRow 3 = .ok (.iload_n 1, 1) := by decide +kernel
theorem dL_changeRow_4 : decode cL_changeRow 4 = .ok (.iload_n 2, 1) := by decide +kernel
theorem dL_changeRow_5 : decode cL_changeRow 5 = .ok (.invokevirtual 73, 3) := by decide +kernel
theorem dL_changeRow_8 : decode cL_changeRow 8 = .ok (.i2l, 1) := by decide +kernel
theorem dL_changeRow_9 : decode cL_changeRow 9 = .ok (.lastore, 1) := by decide +kernel
theorem dL_changeRow_10 : decode cL_changeRow 10 = .ok (.goto 7, 3) := by decide +kernel
theorem dL_changeRow_13 : decode cL_changeRow 13 = .ok (.astore 4, 2) := by decide +kernel
theorem dL_changeRow_15 : decode cL_changeRow 15 = .ok (.iconst 1, 1) := by decide +kernel
theorem dL_changeRow_16 : decode cL_changeRow 16 = .ok (.ireturn, 1) := by decide +kernel
theorem dL_changeRow_17 : decode cL_changeRow 17 = .ok (.iconst 0, 1) := by decide +kernel
theorem dL_changeRow_18 : decode cL_changeRow 18 = .ok (.ireturn, 1) := by decide +kernel
theorem dL_watch_0 : decode cL_watch 0 = .ok (.aload_n 3, 1) := by decide +kernel
theorem dL_watch_1 : decode cL_watch 1 = .ok (.iconst 0, 1) := by decide +kernel
theorem dL_watch_2 : decode cL_watch 2 = .ok (.aload_n 0, 1) := by decide +kernel
theorem dL_watch_3 : decode cL_watch 3 = .ok (.iload_n 1, 1) := by decide +kernel
theorem dL_watch_4 : decode cL_watch 4 = .ok (.iload_n 2, 1) := by decide +kernel
theorem dL_watch_5 : decode cL_watch 5 = .ok (.invokevirtual 76, 3) := by decide +kernel
theorem dL_watch_8 : decode cL_watch 8 = .ok (.i2l, 1) := by decide +kernel
theorem dL_watch_9 : decode cL_watch 9 = .ok (.lastore, 1) := by decide +kernel
theorem dL_watch_10 : decode cL_watch 10 = .ok (.goto 11, 3) := by decide +kernel
theorem dL_watch_13 : decode cL_watch 13 = .ok (.astore 4, 2) := by decide +kernel
theorem dL_watch_15 : decode cL_watch 15 = .ok (.iconst 1, 1) := by decide +kernel
theorem dL_watch_16 : decode cL_watch 16 = .ok (.ireturn, 1) := by decide +kernel
theorem dL_watch_17 : decode cL_watch 17 = .ok (.astore 4, 2) := by decide +kernel
theorem dL_watch_19 : decode cL_watch 19 = .ok (.iconst 2, 1) := by decide +kernel
theorem dL_watch_20 : decode cL_watch 20 = .ok (.ireturn, 1) := by decide +kernel
theorem dL_watch_21 : decode cL_watch 21 = .ok (.iconst 0, 1) := by decide +kernel
theorem dL_watch_22 : decode cL_watch 22 = .ok (.ireturn, 1) := by decide +kernel
theorem dL_isRaised_0 : decode cL_isRaised 0 = .ok (.aload_n 2, 1) := by decide +kernel
theorem dL_isRaised_1 : decode cL_isRaised 1 = .ok (.iconst 0, 1) := by decide +kernel
theorem dL_isRaised_2 : decode cL_isRaised 2 = .ok (.aload_n 0, 1) := by decide +kernel
theorem dL_isRaised_3 : decode cL_isRaised 3 = .ok (.iload_n 1, 1) := by decide +kernel
theorem dL_isRaised_4 : decode cL_isRaised 4 = .ok (.invokevirtual 79, 3) := by decide +kernel
theorem dL_isRaised_7 : decode cL_isRaised 7 = .ok (.ifCond .eq 7, 3) := by decide +kernel
theorem dL_isRaised_10 : decode cL_isRaised 10 = .ok (.lconst 1, 1) := by decide +kernel
theorem dL_isRaised_11 : decode cL_isRaised 11 = .ok (.goto 4, 3) := by decide +kernel
theorem dL_isRaised_14 : decode cL_isRaised 14 = .ok (.lconst 0, 1) := by decide +kernel
theorem dL_isRaised_15 : decode cL_isRaised 15 = .ok (.lastore, 1) := by decide +kernel
theorem dL_isRaised_16 : decode cL_isRaised 16 = .ok (.goto 6, 3) := by decide +kernel
theorem dL_isRaised_19 : decode cL_isRaised 19 = .ok (.astore_n 3, 1) := by decide +kernel
theorem dL_isRaised_20 : decode cL_isRaised 20 = .ok (.iconst 1, 1) := by decide +kernel
theorem dL_isRaised_21 : decode cL_isRaised 21 = .ok (.ireturn, 1) := by decide +kernel
theorem dL_isRaised_22 : decode cL_isRaised 22 = .ok (.iconst 0, 1) := by decide +kernel
theorem dL_isRaised_23 : decode cL_isRaised 23 = .ok (.ireturn, 1) := by decide +kernel
theorem dL_appendCharacter_0 : decode cL_appendCharacter 0 = .ok (.aload_n 2, 1) := by decide +kernel
theorem dL_appendCharacter_1 : decode cL_appendCharacter 1 = .ok (.iconst 0, 1) := by decide +kernel
theorem dL_appendCharacter_2 : decode cL_appendCharacter 2 = .ok (.aload_n 0, 1) := by decide +kernel
theorem dL_appendCharacter_3 : decode cL_appendCharacter 3 = .ok (.iload_n 1, 1) := by decide +kernel
theorem dL_appendCharacter_4 : decode cL_appendCharacter 4 = .ok (.invokevirtual 83, 3) := by decide +kernel
theorem dL_appendCharacter_7 : decode cL_appendCharacter 7 = .ok (.i2l, 1) := by decide +kernel
theorem dL_appendCharacter_8 : decode cL_appendCharacter 8 = .ok (.lastore, 1) := by decide +kernel
theorem dL_appendCharacter_9 : decode cL_appendCharacter 9 = .ok (.goto 9, 3) := by decide +kernel
theorem dL_appendCharacter_12 : decode cL_appendCharacter 12 = .ok (.astore_n 3, 1) := by decide +kernel
theorem dL_appendCharacter_13 : decode cL_appendCharacter 13 = .ok (.iconst 1, 1) := by decide +kernel
theorem dL_appendCharacter_14 : decode cL_appendCharacter 14 = .ok (.ireturn, 1) := by decide +kernel
theorem dL_appendCharacter_15 : decode cL_appendCharacter 15 = .ok (.astore_n 3, 1) := by decide +kernel
theorem dL_appendCharacter_16 : decode cL_appendCharacter 16 = .ok (.iconst 2, 1) := by decide +kernel
theorem dL_appendCharacter_17 : decode cL_appendCharacter 17 = .ok (.ireturn, 1) := by decide +kernel
theorem dL_appendCharacter_18 : decode cL_appendCharacter 18 = .ok (.iconst 0, 1) := by decide +kernel
theorem dL_appendCharacter_19 : decode cL_appendCharacter 19 = .ok (.ireturn, 1) := by decide +kernel
theorem dL_setFilter_0 : decode cL_setFilter 0 = .ok (.aload_n 1, 1) := by decide +kernel
theorem dL_setFilter_1 : decode cL_setFilter 1 = .ok (.iconst 0, 1) := by decide +kernel
theorem dL_setFilter_2 : decode cL_setFilter 2 = .ok (.aload_n 0, 1) := by decide +kernel
theorem dL_setFilter_3 : decode cL_setFilter 3 = .ok (.invokevirtual 86, 3) := by decide +kernel
theorem dL_setFilter_6 : decode cL_setFilter 6 = .ok (.i2l, 1) := by decide +kernel
theorem dL_setFilter_7 : decode cL_setFilter 7 = .ok (.lastore, 1) := by decide +kernel
theorem dL_setFilter_8 : decode cL_setFilter 8 = .ok (.goto 6, 3) := by decide +kernel
theorem dL_setFilter_11 : decode cL_setFilter 11 = .ok (.astore_n 2, 1) := by decide +kernel
theorem dL_setFilter_12 : decode cL_setFilter 12 = .ok (.iconst 1, 1) := by decide +kernel
theorem dL_setFilter_13 : decode cL_setFilter 13 = .ok (.ireturn, 1) := by decide +kernel
theorem dL_setFilter_14 : decode cL_setFilter 14 = .ok (.iconst 0, 1) := by decide +kernel
theorem dL_setFilter_15 : decode cL_setFilter 15 = .ok (.ireturn, 1) := by decide +kernel
theorem dL_accepts_0 : decode cL_accepts 0 = .ok (.aload 5, 2) := by decide +kernel
theorem dL_accepts_2 : decode cL_accepts 2 = .ok (.iconst 0, 1) := by decide +kernel
theorem dL_accepts_3 : decode cL_accepts 3 = .ok (.aload_n 0, 1) := by decide +kernel
theorem dL_accepts_4 : decode cL_accepts 4 = .ok (.iload_n 1, 1) := by decide +kernel
theorem dL_accepts_5 : decode cL_accepts 5 = .ok (.iload_n 2, 1) := by decide +kernel
theorem dL_accepts_6 : decode cL_accepts 6 = .ok (.iload_n 3, 1) := by decide +kernel
theorem dL_accepts_7 : decode cL_accepts 7 = .ok (.iload 4, 2) := by decide +kernel
theorem dL_accepts_9 : decode cL_accepts 9 = .ok (.invokevirtual 89, 3) := by decide +kernel
theorem dL_accepts_12 : decode cL_accepts 12 = .ok (.ifCond .eq 7, 3) := by decide +kernel
theorem dL_accepts_15 : decode cL_accepts 15 = .ok (.lconst 1, 1) := by decide +kernel
theorem dL_accepts_16 : decode cL_accepts 16 = .ok (.goto 4, 3) := by decide +kernel
theorem dL_accepts_19 : decode cL_accepts 19 = .ok (.lconst 0, 1) := by decide +kernel
theorem dL_accepts_20 : decode cL_accepts 20 = .ok (.lastore, 1) := by decide +kernel
theorem dL_accepts_21 : decode cL_accepts 21 = .ok (.goto 7, 3) := by decide +kernel
theorem dL_accepts_24 : decode cL_accepts 24 = .ok (.astore 6, 2) := by decide +kernel
theorem dL_accepts_26 : decode cL_accepts 26 = .ok (.iconst 1, 1) := by decide +kernel
theorem dL_accepts_27 : decode cL_accepts 27 = .ok (.ireturn, 1) := by decide +kernel
theorem dL_accepts_28 : decode cL_accepts 28 = .ok (.iconst 0, 1) := by decide +kernel
theorem dL_accepts_29 : decode cL_accepts 29 = .ok (.ireturn, 1) := by decide +kernel
theorem dL_restore_0 : decode cL_restore 0 = .ok (.aload_n 0, 1) := by decide +kernel
theorem dL_restore_1 : decode cL_restore 1 = .ok (.invokevirtual 93, 3) := by decide +kernel
theorem dL_restore_4 : decode cL_restore 4 = .ok (.goto 6, 3) := by decide +kernel
theorem dL_restore_7 : decode cL_restore 7 = .ok (.astore_n 1, 1) := by decide +kernel
theorem dL_restore_8 : decode cL_restore 8 = .ok (.iconst 1, 1) := by decide +kernel
theorem dL_restore_9 : decode cL_restore 9 = .ok (.ireturn, 1) := by decide +kernel
theorem dL_restore_10 : decode cL_restore 10 = .ok (.iconst 0, 1) := by decide +kernel
theorem dL_restore_11 : decode cL_restore 11 = .ok (.ireturn, 1) := by decide +kernel
theorem dL_law_0 : decode cL_law 0 = .ok (.new 8, 3) := by decide +kernel
theorem dL_law_3 : decode cL_law 3 = .ok (.dup, 1) := by decide +kernel
theorem dL_law_4 : decode cL_law 4 = .ok (.invokespecial 96, 3) := by decide +kernel
theorem dL_law_7 : decode cL_law 7 = .ok (.astore_n 1, 1) := by decide +kernel
theorem dL_law_8 : decode cL_law 8 = .ok (.new 97, 3) := by decide +kernel
theorem dL_law_11 : decode cL_law 11 = .ok (.dup, 1) := by decide +kernel
theorem dL_law_12 : decode cL_law 12 = .ok (.invokespecial 99, 3) := by decide +kernel
theorem dL_law_15 : decode cL_law 15 = .ok (.astore_n 2, 1) := by decide +kernel
theorem dL_law_16 : decode cL_law 16 = .ok (.iconst 1, 1) := by decide +kernel
theorem dL_law_17 : decode cL_law 17 = .ok (.newarray .long, 2) := by decide +kernel
theorem dL_law_19 : decode cL_law 19 = .ok (.astore_n 3, 1) := by decide +kernel
theorem dL_law_20 : decode cL_law 20 = .ok (.iconst 1, 1) := by decide +kernel
theorem dL_law_21 : decode cL_law 21 = .ok (.newarray .double, 2) := by decide +kernel
theorem dL_law_23 : decode cL_law 23 = .ok (.astore 4, 2) := by decide +kernel
theorem dL_law_25 : decode cL_law 25 = .ok (.iconst 0, 1) := by decide +kernel
theorem dL_law_26 : decode cL_law 26 = .ok (.istore 5, 2) := by decide +kernel
theorem dL_law_28 : decode cL_law 28 = .ok (.iload 5, 2) := by decide +kernel
theorem dL_law_30 : decode cL_law 30 = .ok (.aload_n 0, 1) := by decide +kernel
theorem dL_law_31 : decode cL_law 31 = .ok (.arraylength, 1) := by decide +kernel
theorem dL_law_32 : decode cL_law 32 = .ok (.iconst 5, 1) := by decide +kernel
theorem dL_law_33 : decode cL_law 33 = .ok (.isub, 1) := by decide +kernel
theorem dL_law_34 : decode cL_law 34 = .ok (.if_icmp .gt 1971, 3) := by decide +kernel
theorem dL_law_37 : decode cL_law 37 = .ok (.aload_n 0, 1) := by decide +kernel
theorem dL_law_38 : decode cL_law 38 = .ok (.iload 5, 2) := by decide +kernel
theorem dL_law_40 : decode cL_law 40 = .ok (.iaload, 1) := by decide +kernel
theorem dL_law_41 : decode cL_law 41 = .ok (.bipush 63, 2) := by decide +kernel
theorem dL_law_43 : decode cL_law 43 = .ok (.iand, 1) := by decide +kernel
theorem dL_law_44 : decode cL_law 44 = .ok (.tableswitch 1955 0 39 #[176, 256, 336, 404, 472, 485, 498, 511, 555, 635, 703, 716, 729, 742, 755, 804, 872, 885, 953, 1009, 1065, 1121, 1177, 1233, 1301, 1378, 1403, 1459, 1472, 1540, 1608, 1671, 1684, 1697, 1753, 1797, 1810, 1821, 1920, 1931], 176) := by decide +kernel
theorem dL_law_220 : decode cL_law 220 = .ok (.aload_n 1, 1) := by decide +kernel
theorem dL_law_221 : decode cL_law 221 = .ok (.aload_n 0, 1) := by decide +kernel
theorem dL_law_222 : decode cL_law 222 = .ok (.iload 5, 2) := by decide +kernel
theorem dL_law_224 : decode cL_law 224 = .ok (.iconst 1, 1) := by decide +kernel
theorem dL_law_225 : decode cL_law 225 = .ok (.iadd, 1) := by decide +kernel
theorem dL_law_226 : decode cL_law 226 = .ok (.iaload, 1) := by decide +kernel
theorem dL_law_227 : decode cL_law 227 = .ok (.aload_n 0, 1) := by decide +kernel
theorem dL_law_228 : decode cL_law 228 = .ok (.iload 5, 2) := by decide +kernel
theorem dL_law_230 : decode cL_law 230 = .ok (.iconst 2, 1) := by decide +kernel
theorem dL_law_231 : decode cL_law 231 = .ok (.iadd, 1) := by decide +kernel
theorem dL_law_232 : decode cL_law 232 = .ok (.iaload, 1) := by decide +kernel
theorem dL_law_233 : decode cL_law 233 = .ok (.aload_n 0, 1) := by decide +kernel
theorem dL_law_234 : decode cL_law 234 = .ok (.iload 5, 2) := by decide +kernel
theorem dL_law_236 : decode cL_law 236 = .ok (.iconst 3, 1) := by decide +kernel
theorem dL_law_237 : decode cL_law 237 = .ok (.iadd, 1) := by decide +kernel
theorem dL_law_238 : decode cL_law 238 = .ok (.iaload, 1) := by decide +kernel
theorem dL_law_239 : decode cL_law 239 = .ok (.aload_n 3, 1) := by decide +kernel
theorem dL_law_240 : decode cL_law 240 = .ok (.invokestatic 100, 3) := by decide +kernel
theorem dL_law_243 : decode cL_law 243 = .ok (.istore 6, 2) := by decide +kernel
theorem dL_law_245 : decode cL_law 245 = .ok (.aload_n 2, 1) := by decide +kernel
theorem dL_law_246 : decode cL_law 246 = .ok (.aload_n 0, 1) := by decide +kernel
theorem dL_law_247 : decode cL_law 247 = .ok (.iload 5, 2) := by decide +kernel
theorem dL_law_249 : decode cL_law 249 = .ok (.iconst 1, 1) := by decide +kernel
theorem dL_law_250 : decode cL_law 250 = .ok (.iadd, 1) := by decide +kernel
theorem dL_law_251 : decode cL_law 251 = .ok (.iaload, 1) := by decide +kernel
theorem dL_law_252 : decode cL_law 252 = .ok (.aload_n 0, 1) := by decide +kernel
theorem dL_law_253 : decode cL_law 253 = .ok (.iload 5, 2) := by decide +kernel
theorem dL_law_255 : decode cL_law 255 = .ok (.iconst 2, 1) := by decide +kernel
theorem dL_law_256 : decode cL_law 256 = .ok (.iadd, 1) := by decide +kernel
theorem dL_law_257 : decode cL_law 257 = .ok (.iaload, 1) := by decide +kernel
theorem dL_law_258 : decode cL_law 258 = .ok (.aload_n 0, 1) := by decide +kernel
theorem dL_law_259 : decode cL_law 259 = .ok (.iload 5, 2) := by decide +kernel
theorem dL_law_261 : decode cL_law 261 = .ok (.iconst 3, 1) := by decide +kernel
theorem dL_law_262 : decode cL_law 262 = .ok (.iadd, 1) := by decide +kernel
theorem dL_law_263 : decode cL_law 263 = .ok (.iaload, 1) := by decide +kernel
theorem dL_law_264 : decode cL_law 264 = .ok (.invokevirtual 105, 3) := by decide +kernel
theorem dL_law_267 : decode cL_law 267 = .ok (.istore 7, 2) := by decide +kernel
theorem dL_law_269 : decode cL_law 269 = .ok (.aload_n 2, 1) := by decide +kernel
theorem dL_law_270 : decode cL_law 270 = .ok (.invokevirtual 106, 3) := by decide +kernel
theorem dL_law_273 : decode cL_law 273 = .ok (.iload 6, 2) := by decide +kernel
theorem dL_law_275 : decode cL_law 275 = .ok (.if_icmp .eq 5, 3) := by decide +kernel
theorem dL_law_278 : decode cL_law 278 = .ok (.iconst 0, 1) := by decide +kernel
theorem dL_law_279 : decode cL_law 279 = .ok (.ireturn, 1) := by decide +kernel
theorem dL_law_280 : decode cL_law 280 = .ok (.iload 6, 2) := by decide +kernel
theorem dL_law_282 : decode cL_law 282 = .ok (.ifCond .ne 15, 3) := by decide +kernel
theorem dL_law_285 : decode cL_law 285 = .ok (.aload_n 3, 1) := by decide +kernel
theorem dL_law_286 : decode cL_law 286 = .ok (.iconst 0, 1) := by decide +kernel
theorem dL_law_287 : decode cL_law 287 = .ok (.laload, 1) := by decide +kernel
theorem dL_law_288 : decode cL_law 288 = .ok (.iload 7, 2) := by decide +kernel
theorem dL_law_290 : decode cL_law 290 = .ok (.i2l, 1) := by decide +kernel
theorem dL_law_291 : decode cL_law 291 = .ok (.lcmp, 1) := by decide +kernel
theorem dL_law_292 : decode cL_law 292 = .ok (.ifCond .eq 5, 3) := by decide +kernel
theorem dL_law_295 : decode cL_law 295 = .ok (.iconst 0, 1) := by decide +kernel
theorem dL_law_296 : decode cL_law 296 = .ok (.ireturn, 1) := by decide +kernel
theorem dL_law_297 : decode cL_law 297 = .ok (.goto 1702, 3) := by decide +kernel
theorem dL_law_300 : decode cL_law 300 = .ok (.aload_n 1, 1) := by decide +kernel
theorem dL_law_301 : decode cL_law 301 = .ok (.aload_n 0, 1) := by decide +kernel
theorem dL_law_302 : decode cL_law 302 = .ok (.iload 5, 2) := by decide +kernel
theorem dL_law_304 : decode cL_law 304 = .ok (.iconst 1, 1) := by decide +kernel
theorem dL_law_305 : decode cL_law 305 = .ok (.iadd, 1) := by decide +kernel
theorem dL_law_306 : decode cL_law 306 = .ok (.iaload, 1) := by decide +kernel
theorem dL_law_307 : decode cL_law 307 = .ok (.aload_n 0, 1) := by decide +kernel
theorem dL_law_308 : decode cL_law 308 = .ok (.iload 5, 2) := by decide +kernel
theorem dL_law_310 : decode cL_law 310 = .ok (.iconst 2, 1) := by decide +kernel
theorem dL_law_311 : decode cL_law 311 = .ok (.iadd, 1) := by decide +kernel
theorem dL_law_312 : decode cL_law 312 = .ok (.iaload, 1) := by decide +kernel
theorem dL_law_313 : decode cL_law 313 = .ok (.aload_n 0, 1) := by decide +kernel
theorem dL_law_314 : decode cL_law 314 = .ok (.iload 5, 2) := by decide +kernel
theorem dL_law_316 : decode cL_law 316 = .ok (.iconst 3, 1) := by decide +kernel
theorem dL_law_317 : decode cL_law 317 = .ok (.iadd, 1) := by decide +kernel
theorem dL_law_318 : decode cL_law 318 = .ok (.iaload, 1) := by decide +kernel
theorem dL_law_319 : decode cL_law 319 = .ok (.aload_n 3, 1) := by decide +kernel
theorem dL_law_320 : decode cL_law 320 = .ok (.invokestatic 109, 3) := by decide +kernel
theorem dL_law_323 : decode cL_law 323 = .ok (.istore 6, 2) := by decide +kernel
theorem dL_law_325 : decode cL_law 325 = .ok (.aload_n 2, 1) := by decide +kernel
theorem dL_law_326 : decode cL_law 326 = .ok (.aload_n 0, 1) := by decide +kernel
theorem dL_law_327 : decode cL_law 327 = .ok (.iload 5, 2) := by decide +kernel
theorem dL_law_329 : decode cL_law 329 = .ok (.iconst 1, 1) := by decide +kernel
theorem dL_law_330 : decode cL_law 330 = .ok (.iadd, 1) := by decide +kernel
theorem dL_law_331 : decode cL_law 331 = .ok (.iaload, 1) := by decide +kernel
theorem dL_law_332 : decode cL_law 332 = .ok (.aload_n 0, 1) := by decide +kernel
theorem dL_law_333 : decode cL_law 333 = .ok (.iload 5, 2) := by decide +kernel
theorem dL_law_335 : decode cL_law 335 = .ok (.iconst 2, 1) := by decide +kernel
theorem dL_law_336 : decode cL_law 336 = .ok (.iadd, 1) := by decide +kernel
theorem dL_law_337 : decode cL_law 337 = .ok (.iaload, 1) := by decide +kernel
theorem dL_law_338 : decode cL_law 338 = .ok (.aload_n 0, 1) := by decide +kernel
theorem dL_law_339 : decode cL_law 339 = .ok (.iload 5, 2) := by decide +kernel
theorem dL_law_341 : decode cL_law 341 = .ok (.iconst 3, 1) := by decide +kernel
theorem dL_law_342 : decode cL_law 342 = .ok (.iadd, 1) := by decide +kernel
theorem dL_law_343 : decode cL_law 343 = .ok (.iaload, 1) := by decide +kernel
theorem dL_law_344 : decode cL_law 344 = .ok (.invokevirtual 111, 3) := by decide +kernel
theorem dL_law_347 : decode cL_law 347 = .ok (.istore 7, 2) := by decide +kernel
theorem dL_law_349 : decode cL_law 349 = .ok (.aload_n 2, 1) := by decide +kernel
theorem dL_law_350 : decode cL_law 350 = .ok (.invokevirtual 106, 3) := by decide +kernel
theorem dL_law_353 : decode cL_law 353 = .ok (.iload 6, 2) := by decide +kernel
theorem dL_law_355 : decode cL_law 355 = .ok (.if_icmp .eq 5, 3) := by decide +kernel
theorem dL_law_358 : decode cL_law 358 = .ok (.iconst 0, 1) := by decide +kernel
theorem dL_law_359 : decode cL_law 359 = .ok (.ireturn, 1) := by decide +kernel
theorem dL_law_360 : decode cL_law 360 = .ok (.iload 6, 2) := by decide +kernel
theorem dL_law_362 : decode cL_law 362 = .ok (.ifCond .ne 15, 3) := by decide +kernel
theorem dL_law_365 : decode cL_law 365 = .ok (.aload_n 3, 1) := by decide +kernel
theorem dL_law_366 : decode cL_law 366 = .ok (.iconst 0, 1) := by decide +kernel
theorem dL_law_367 : decode cL_law 367 = .ok (.laload, 1) := by decide +kernel
theorem dL_law_368 : decode cL_law 368 = .ok (.iload 7, 2) := by decide +kernel
theorem dL_law_370 : decode cL_law 370 = .ok (.i2l, 1) := by decide +kernel
theorem dL_law_371 : decode cL_law 371 = .ok (.lcmp, 1) := by decide +kernel
theorem dL_law_372 : decode cL_law 372 = .ok (.ifCond .eq 5, 3) := by decide +kernel
theorem dL_law_375 : decode cL_law 375 = .ok (.iconst 0, 1) := by decide +kernel
theorem dL_law_376 : decode cL_law 376 = .ok (.ireturn, 1) := by decide +kernel
theorem dL_law_377 : decode cL_law 377 = .ok (.goto 1622, 3) := by decide +kernel
theorem dL_law_380 : decode cL_law 380 = .ok (.aload_n 1, 1) := by decide +kernel
theorem dL_law_381 : decode cL_law 381 = .ok (.aload_n 0, 1) := by decide +kernel
theorem dL_law_382 : decode cL_law 382 = .ok (.iload 5, 2) := by decide +kernel
theorem dL_law_384 : decode cL_law 384 = .ok (.iconst 1, 1) := by decide +kernel
theorem dL_law_385 : decode cL_law 385 = .ok (.iadd, 1) := by decide +kernel
theorem dL_law_386 : decode cL_law 386 = .ok (.iaload, 1) := by decide +kernel
theorem dL_law_387 : decode cL_law 387 = .ok (.aload_n 0, 1) := by decide +kernel
theorem dL_law_388 : decode cL_law 388 = .ok (.iload 5, 2) := by decide +kernel
theorem dL_law_390 : decode cL_law 390 = .ok (.iconst 2, 1) := by decide +kernel
theorem dL_law_391 : decode cL_law 391 = .ok (.iadd, 1) := by decide +kernel
theorem dL_law_392 : decode cL_law 392 = .ok (.iaload, 1) := by decide +kernel
theorem dL_law_393 : decode cL_law 393 = .ok (.aload_n 3, 1) := by decide +kernel
theorem dL_law_394 : decode cL_law 394 = .ok (.invokestatic 112, 3) := by decide +kernel
theorem dL_law_397 : decode cL_law 397 = .ok (.istore 6, 2) := by decide +kernel
theorem dL_law_399 : decode cL_law 399 = .ok (.aload_n 2, 1) := by decide +kernel
theorem dL_law_400 : decode cL_law 400 = .ok (.aload_n 0, 1) := by decide +kernel
theorem dL_law_401 : decode cL_law 401 = .ok (.iload 5, 2) := by decide +kernel
theorem dL_law_403 : decode cL_law 403 = .ok (.iconst 1, 1) := by decide +kernel
theorem dL_law_404 : decode cL_law 404 = .ok (.iadd, 1) := by decide +kernel
theorem dL_law_405 : decode cL_law 405 = .ok (.iaload, 1) := by decide +kernel
theorem dL_law_406 : decode cL_law 406 = .ok (.aload_n 0, 1) := by decide +kernel
theorem dL_law_407 : decode cL_law 407 = .ok (.iload 5, 2) := by decide +kernel
theorem dL_law_409 : decode cL_law 409 = .ok (.iconst 2, 1) := by decide +kernel
theorem dL_law_410 : decode cL_law 410 = .ok (.iadd, 1) := by decide +kernel
theorem dL_law_411 : decode cL_law 411 = .ok (.iaload, 1) := by decide +kernel
theorem dL_law_412 : decode cL_law 412 = .ok (.invokevirtual 115, 3) := by decide +kernel
theorem dL_law_415 : decode cL_law 415 = .ok (.istore 7, 2) := by decide +kernel
theorem dL_law_417 : decode cL_law 417 = .ok (.aload_n 2, 1) := by decide +kernel
theorem dL_law_418 : decode cL_law 418 = .ok (.invokevirtual 106, 3) := by decide +kernel
theorem dL_law_421 : decode cL_law 421 = .ok (.iload 6, 2) := by decide +kernel
theorem dL_law_423 : decode cL_law 423 = .ok (.if_icmp .eq 5, 3) := by decide +kernel
theorem dL_law_426 : decode cL_law 426 = .ok (.iconst 0, 1) := by decide +kernel
theorem dL_law_427 : decode cL_law 427 = .ok (.ireturn, 1) := by decide +kernel
theorem dL_law_428 : decode cL_law 428 = .ok (.iload 6, 2) := by decide +kernel
theorem dL_law_430 : decode cL_law 430 = .ok (.ifCond .ne 15, 3) := by decide +kernel
theorem dL_law_433 : decode cL_law 433 = .ok (.aload_n 3, 1) := by decide +kernel
theorem dL_law_434 : decode cL_law 434 = .ok (.iconst 0, 1) := by decide +kernel
theorem dL_law_435 : decode cL_law 435 = .ok (.laload, 1) := by decide +kernel
theorem dL_law_436 : decode cL_law 436 = .ok (.iload 7, 2) := by decide +kernel
theorem dL_law_438 : decode cL_law 438 = .ok (.i2l, 1) := by decide +kernel
theorem dL_law_439 : decode cL_law 439 = .ok (.lcmp, 1) := by decide +kernel
theorem dL_law_440 : decode cL_law 440 = .ok (.ifCond .eq 5, 3) := by decide +kernel
theorem dL_law_443 : decode cL_law 443 = .ok (.iconst 0, 1) := by decide +kernel
theorem dL_law_444 : decode cL_law 444 = .ok (.ireturn, 1) := by decide +kernel
theorem dL_law_445 : decode cL_law 445 = .ok (.goto 1554, 3) := by decide +kernel
theorem dL_law_448 : decode cL_law 448 = .ok (.aload_n 1, 1) := by decide +kernel
theorem dL_law_449 : decode cL_law 449 = .ok (.aload_n 0, 1) := by decide +kernel
theorem dL_law_450 : decode cL_law 450 = .ok (.iload 5, 2) := by decide +kernel
theorem dL_law_452 : decode cL_law 452 = .ok (.iconst 1, 1) := by decide +kernel
theorem dL_law_453 : decode cL_law 453 = .ok (.iadd, 1) := by decide +kernel
theorem dL_law_454 : decode cL_law 454 = .ok (.iaload, 1) := by decide +kernel
theorem dL_law_455 : decode cL_law 455 = .ok (.aload_n 0, 1) := by decide +kernel
theorem dL_law_456 : decode cL_law 456 = .ok (.iload 5, 2) := by decide +kernel
theorem dL_law_458 : decode cL_law 458 = .ok (.iconst 2, 1) := by decide +kernel
theorem dL_law_459 : decode cL_law 459 = .ok (.iadd, 1) := by decide +kernel
theorem dL_law_460 : decode cL_law 460 = .ok (.iaload, 1) := by decide +kernel
theorem dL_law_461 : decode cL_law 461 = .ok (.aload_n 3, 1) := by decide +kernel
theorem dL_law_462 : decode cL_law 462 = .ok (.invokestatic 116, 3) := by decide +kernel
theorem dL_law_465 : decode cL_law 465 = .ok (.istore 6, 2) := by decide +kernel
theorem dL_law_467 : decode cL_law 467 = .ok (.aload_n 2, 1) := by decide +kernel
theorem dL_law_468 : decode cL_law 468 = .ok (.aload_n 0, 1) := by decide +kernel
theorem dL_law_469 : decode cL_law 469 = .ok (.iload 5, 2) := by decide +kernel
theorem dL_law_471 : decode cL_law 471 = .ok (.iconst 1, 1) := by decide +kernel
theorem dL_law_472 : decode cL_law 472 = .ok (.iadd, 1) := by decide +kernel
theorem dL_law_473 : decode cL_law 473 = .ok (.iaload, 1) := by decide +kernel
theorem dL_law_474 : decode cL_law 474 = .ok (.aload_n 0, 1) := by decide +kernel
theorem dL_law_475 : decode cL_law 475 = .ok (.iload 5, 2) := by decide +kernel
theorem dL_law_477 : decode cL_law 477 = .ok (.iconst 2, 1) := by decide +kernel
theorem dL_law_478 : decode cL_law 478 = .ok (.iadd, 1) := by decide +kernel
theorem dL_law_479 : decode cL_law 479 = .ok (.iaload, 1) := by decide +kernel
theorem dL_law_480 : decode cL_law 480 = .ok (.invokevirtual 118, 3) := by decide +kernel
theorem dL_law_483 : decode cL_law 483 = .ok (.istore 7, 2) := by decide +kernel
theorem dL_law_485 : decode cL_law 485 = .ok (.aload_n 2, 1) := by decide +kernel
theorem dL_law_486 : decode cL_law 486 = .ok (.invokevirtual 106, 3) := by decide +kernel
theorem dL_law_489 : decode cL_law 489 = .ok (.iload 6, 2) := by decide +kernel
theorem dL_law_491 : decode cL_law 491 = .ok (.if_icmp .eq 5, 3) := by decide +kernel
theorem dL_law_494 : decode cL_law 494 = .ok (.iconst 0, 1) := by decide +kernel
theorem dL_law_495 : decode cL_law 495 = .ok (.ireturn, 1) := by decide +kernel
theorem dL_law_496 : decode cL_law 496 = .ok (.iload 6, 2) := by decide +kernel
theorem dL_law_498 : decode cL_law 498 = .ok (.ifCond .ne 15, 3) := by decide +kernel
theorem dL_law_501 : decode cL_law 501 = .ok (.aload_n 3, 1) := by decide +kernel
theorem dL_law_502 : decode cL_law 502 = .ok (.iconst 0, 1) := by decide +kernel
theorem dL_law_503 : decode cL_law 503 = .ok (.laload, 1) := by decide +kernel
theorem dL_law_504 : decode cL_law 504 = .ok (.iload 7, 2) := by decide +kernel
theorem dL_law_506 : decode cL_law 506 = .ok (.i2l, 1) := by decide +kernel
theorem dL_law_507 : decode cL_law 507 = .ok (.lcmp, 1) := by decide +kernel
theorem dL_law_508 : decode cL_law 508 = .ok (.ifCond .eq 5, 3) := by decide +kernel
theorem dL_law_511 : decode cL_law 511 = .ok (.iconst 0, 1) := by decide +kernel
theorem dL_law_512 : decode cL_law 512 = .ok (.ireturn, 1) := by decide +kernel
theorem dL_law_513 : decode cL_law 513 = .ok (.goto 1486, 3) := by decide +kernel
theorem dL_law_516 : decode cL_law 516 = .ok (.aload_n 1, 1) := by decide +kernel
theorem dL_law_517 : decode cL_law 517 = .ok (.invokevirtual 119, 3) := by decide +kernel
theorem dL_law_520 : decode cL_law 520 = .ok (.aload_n 2, 1) := by decide +kernel
theorem dL_law_521 : decode cL_law 521 = .ok (.invokevirtual 122, 3) := by decide +kernel
theorem dL_law_524 : decode cL_law 524 = .ok (.if_icmp .eq 1475, 3) := by decide +kernel
theorem dL_law_527 : decode cL_law 527 = .ok (.iconst 0, 1) := by decide +kernel
theorem dL_law_528 : decode cL_law 528 = .ok (.ireturn, 1) := by decide +kernel
theorem dL_law_529 : decode cL_law 529 = .ok (.aload_n 1, 1) := by decide +kernel
theorem dL_law_530 : decode cL_law 530 = .ok (.invokevirtual 123, 3) := by decide +kernel
theorem dL_law_533 : decode cL_law 533 = .ok (.aload_n 2, 1) := by decide +kernel
theorem dL_law_534 : decode cL_law 534 = .ok (.invokevirtual 126, 3) := by decide +kernel
theorem dL_law_537 : decode cL_law 537 = .ok (.if_icmp .eq 1462, 3) := by decide +kernel
theorem dL_law_540 : decode cL_law 540 = .ok (.iconst 0, 1) := by decide +kernel
theorem dL_law_541 : decode cL_law 541 = .ok (.ireturn, 1) := by decide +kernel
theorem dL_law_542 : decode cL_law 542 = .ok (.aload_n 1, 1) := by decide +kernel
theorem dL_law_543 : decode cL_law 543 = .ok (.invokevirtual 127, 3) := by decide +kernel
theorem dL_law_546 : decode cL_law 546 = .ok (.aload_n 2, 1) := by decide +kernel
theorem dL_law_547 : decode cL_law 547 = .ok (.invokevirtual 130, 3) := by decide +kernel
theorem dL_law_550 : decode cL_law 550 = .ok (.if_icmp .eq 1449, 3) := by decide +kernel
theorem dL_law_553 : decode cL_law 553 = .ok (.iconst 0, 1) := by decide +kernel
theorem dL_law_554 : decode cL_law 554 = .ok (.ireturn, 1) := by decide +kernel
theorem dL_law_555 : decode cL_law 555 = .ok (.aload_n 1, 1) := by decide +kernel
theorem dL_law_556 : decode cL_law 556 = .ok (.aload_n 3, 1) := by decide +kernel
theorem dL_law_557 : decode cL_law 557 = .ok (.invokestatic 131, 3) := by decide +kernel
theorem dL_law_560 : decode cL_law 560 = .ok (.istore 6, 2) := by decide +kernel
theorem dL_law_562 : decode cL_law 562 = .ok (.aload_n 2, 1) := by decide +kernel
theorem dL_law_563 : decode cL_law 563 = .ok (.invokevirtual 134, 3) := by decide +kernel
theorem dL_law_566 : decode cL_law 566 = .ok (.istore 7, 2) := by decide +kernel
theorem dL_law_568 : decode cL_law 568 = .ok (.aload_n 2, 1) := by decide +kernel
theorem dL_law_569 : decode cL_law 569 = .ok (.invokevirtual 106, 3) := by decide +kernel
theorem dL_law_572 : decode cL_law 572 = .ok (.iload 6, 2) := by decide +kernel
theorem dL_law_574 : decode cL_law 574 = .ok (.if_icmp .eq 5, 3) := by decide +kernel
theorem dL_law_577 : decode cL_law 577 = .ok (.iconst 0, 1) := by decide +kernel
theorem dL_law_578 : decode cL_law 578 = .ok (.ireturn, 1) := by decide +kernel
theorem dL_law_579 : decode cL_law 579 = .ok (.iload 6, 2) := by decide +kernel
theorem dL_law_581 : decode cL_law 581 = .ok (.ifCond .ne 15, 3) := by decide +kernel
theorem dL_law_584 : decode cL_law 584 = .ok (.aload_n 3, 1) := by decide +kernel
theorem dL_law_585 : decode cL_law 585 = .ok (.iconst 0, 1) := by decide +kernel
theorem dL_law_586 : decode cL_law 586 = .ok (.laload, 1) := by decide +kernel
theorem dL_law_587 : decode cL_law 587 = .ok (.iload 7, 2) := by decide +kernel
theorem dL_law_589 : decode cL_law 589 = .ok (.i2l, 1) := by decide +kernel
theorem dL_law_590 : decode cL_law 590 = .ok (.lcmp, 1) := by decide +kernel
theorem dL_law_591 : decode cL_law 591 = .ok (.ifCond .eq 5, 3) := by decide +kernel
theorem dL_law_594 : decode cL_law 594 = .ok (.iconst 0, 1) := by decide +kernel
theorem dL_law_595 : decode cL_law 595 = .ok (.ireturn, 1) := by decide +kernel
theorem dL_law_596 : decode cL_law 596 = .ok (.goto 1403, 3) := by decide +kernel
theorem dL_law_599 : decode cL_law 599 = .ok (.aload_n 1, 1) := by decide +kernel
theorem dL_law_600 : decode cL_law 600 = .ok (.aload_n 0, 1) := by decide +kernel
theorem dL_law_601 : decode cL_law 601 = .ok (.iload 5, 2) := by decide +kernel
theorem dL_law_603 : decode cL_law 603 = .ok (.iconst 1, 1) := by decide +kernel
theorem dL_law_604 : decode cL_law 604 = .ok (.iadd, 1) := by decide +kernel
theorem dL_law_605 : decode cL_law 605 = .ok (.iaload, 1) := by decide +kernel
theorem dL_law_606 : decode cL_law 606 = .ok (.aload_n 0, 1) := by decide +kernel
theorem dL_law_607 : decode cL_law 607 = .ok (.iload 5, 2) := by decide +kernel
theorem dL_law_609 : decode cL_law 609 = .ok (.iconst 2, 1) := by decide +kernel
theorem dL_law_610 : decode cL_law 610 = .ok (.iadd, 1) := by decide +kernel
theorem dL_law_611 : decode cL_law 611 = .ok (.iaload, 1) := by decide +kernel
theorem dL_law_612 : decode cL_law 612 = .ok (.aload_n 0, 1) := by decide +kernel
theorem dL_law_613 : decode cL_law 613 = .ok (.iload 5, 2) := by decide +kernel
theorem dL_law_615 : decode cL_law 615 = .ok (.iconst 3, 1) := by decide +kernel
theorem dL_law_616 : decode cL_law 616 = .ok (.iadd, 1) := by decide +kernel
theorem dL_law_617 : decode cL_law 617 = .ok (.iaload, 1) := by decide +kernel
theorem dL_law_618 : decode cL_law 618 = .ok (.aload_n 3, 1) := by decide +kernel
theorem dL_law_619 : decode cL_law 619 = .ok (.invokestatic 135, 3) := by decide +kernel
theorem dL_law_622 : decode cL_law 622 = .ok (.istore 6, 2) := by decide +kernel
theorem dL_law_624 : decode cL_law 624 = .ok (.aload_n 2, 1) := by decide +kernel
theorem dL_law_625 : decode cL_law 625 = .ok (.aload_n 0, 1) := by decide +kernel
theorem dL_law_626 : decode cL_law 626 = .ok (.iload 5, 2) := by decide +kernel
theorem dL_law_628 : decode cL_law 628 = .ok (.iconst 1, 1) := by decide +kernel
theorem dL_law_629 : decode cL_law 629 = .ok (.iadd, 1) := by decide +kernel
theorem dL_law_630 : decode cL_law 630 = .ok (.iaload, 1) := by decide +kernel
theorem dL_law_631 : decode cL_law 631 = .ok (.aload_n 0, 1) := by decide +kernel
theorem dL_law_632 : decode cL_law 632 = .ok (.iload 5, 2) := by decide +kernel
theorem dL_law_634 : decode cL_law 634 = .ok (.iconst 2, 1) := by decide +kernel
theorem dL_law_635 : decode cL_law 635 = .ok (.iadd, 1) := by decide +kernel
theorem dL_law_636 : decode cL_law 636 = .ok (.iaload, 1) := by decide +kernel
theorem dL_law_637 : decode cL_law 637 = .ok (.aload_n 0, 1) := by decide +kernel
theorem dL_law_638 : decode cL_law 638 = .ok (.iload 5, 2) := by decide +kernel
theorem dL_law_640 : decode cL_law 640 = .ok (.iconst 3, 1) := by decide +kernel
theorem dL_law_641 : decode cL_law 641 = .ok (.iadd, 1) := by decide +kernel
theorem dL_law_642 : decode cL_law 642 = .ok (.iaload, 1) := by decide +kernel
theorem dL_law_643 : decode cL_law 643 = .ok (.invokevirtual 137, 3) := by decide +kernel
theorem dL_law_646 : decode cL_law 646 = .ok (.istore 7, 2) := by decide +kernel
theorem dL_law_648 : decode cL_law 648 = .ok (.aload_n 2, 1) := by decide +kernel
theorem dL_law_649 : decode cL_law 649 = .ok (.invokevirtual 106, 3) := by decide +kernel
theorem dL_law_652 : decode cL_law 652 = .ok (.iload 6, 2) := by decide +kernel
theorem dL_law_654 : decode cL_law 654 = .ok (.if_icmp .eq 5, 3) := by decide +kernel
theorem dL_law_657 : decode cL_law 657 = .ok (.iconst 0, 1) := by decide +kernel
theorem dL_law_658 : decode cL_law 658 = .ok (.ireturn, 1) := by decide +kernel
theorem dL_law_659 : decode cL_law 659 = .ok (.iload 6, 2) := by decide +kernel
theorem dL_law_661 : decode cL_law 661 = .ok (.ifCond .ne 15, 3) := by decide +kernel
theorem dL_law_664 : decode cL_law 664 = .ok (.aload_n 3, 1) := by decide +kernel
theorem dL_law_665 : decode cL_law 665 = .ok (.iconst 0, 1) := by decide +kernel
theorem dL_law_666 : decode cL_law 666 = .ok (.laload, 1) := by decide +kernel
theorem dL_law_667 : decode cL_law 667 = .ok (.iload 7, 2) := by decide +kernel
theorem dL_law_669 : decode cL_law 669 = .ok (.i2l, 1) := by decide +kernel
theorem dL_law_670 : decode cL_law 670 = .ok (.lcmp, 1) := by decide +kernel
theorem dL_law_671 : decode cL_law 671 = .ok (.ifCond .eq 5, 3) := by decide +kernel
theorem dL_law_674 : decode cL_law 674 = .ok (.iconst 0, 1) := by decide +kernel
theorem dL_law_675 : decode cL_law 675 = .ok (.ireturn, 1) := by decide +kernel
theorem dL_law_676 : decode cL_law 676 = .ok (.goto 1323, 3) := by decide +kernel
theorem dL_law_679 : decode cL_law 679 = .ok (.aload_n 1, 1) := by decide +kernel
theorem dL_law_680 : decode cL_law 680 = .ok (.aload_n 0, 1) := by decide +kernel
theorem dL_law_681 : decode cL_law 681 = .ok (.iload 5, 2) := by decide +kernel
theorem dL_law_683 : decode cL_law 683 = .ok (.iconst 1, 1) := by decide +kernel
theorem dL_law_684 : decode cL_law 684 = .ok (.iadd, 1) := by decide +kernel
theorem dL_law_685 : decode cL_law 685 = .ok (.iaload, 1) := by decide +kernel
theorem dL_law_686 : decode cL_law 686 = .ok (.aload_n 0, 1) := by decide +kernel
theorem dL_law_687 : decode cL_law 687 = .ok (.iload 5, 2) := by decide +kernel
theorem dL_law_689 : decode cL_law 689 = .ok (.iconst 2, 1) := by decide +kernel
theorem dL_law_690 : decode cL_law 690 = .ok (.iadd, 1) := by decide +kernel
theorem dL_law_691 : decode cL_law 691 = .ok (.iaload, 1) := by decide +kernel
theorem dL_law_692 : decode cL_law 692 = .ok (.aload_n 3, 1) := by decide +kernel
theorem dL_law_693 : decode cL_law 693 = .ok (.invokestatic 138, 3) := by decide +kernel
theorem dL_law_696 : decode cL_law 696 = .ok (.istore 6, 2) := by decide +kernel
theorem dL_law_698 : decode cL_law 698 = .ok (.aload_n 2, 1) := by decide +kernel
theorem dL_law_699 : decode cL_law 699 = .ok (.aload_n 0, 1) := by decide +kernel
theorem dL_law_700 : decode cL_law 700 = .ok (.iload 5, 2) := by decide +kernel
theorem dL_law_702 : decode cL_law 702 = .ok (.iconst 1, 1) := by decide +kernel
theorem dL_law_703 : decode cL_law 703 = .ok (.iadd, 1) := by decide +kernel
theorem dL_law_704 : decode cL_law 704 = .ok (.iaload, 1) := by decide +kernel
theorem dL_law_705 : decode cL_law 705 = .ok (.aload_n 0, 1) := by decide +kernel
theorem dL_law_706 : decode cL_law 706 = .ok (.iload 5, 2) := by decide +kernel
theorem dL_law_708 : decode cL_law 708 = .ok (.iconst 2, 1) := by decide +kernel
theorem dL_law_709 : decode cL_law 709 = .ok (.iadd, 1) := by decide +kernel
theorem dL_law_710 : decode cL_law 710 = .ok (.iaload, 1) := by decide +kernel
theorem dL_law_711 : decode cL_law 711 = .ok (.invokevirtual 140, 3) := by decide +kernel
theorem dL_law_714 : decode cL_law 714 = .ok (.istore 7, 2) := by decide +kernel
theorem dL_law_716 : decode cL_law 716 = .ok (.aload_n 2, 1) := by decide +kernel
theorem dL_law_717 : decode cL_law 717 = .ok (.invokevirtual 106, 3) := by decide +kernel
theorem dL_law_720 : decode cL_law 720 = .ok (.iload 6, 2) := by decide +kernel
theorem dL_law_722 : decode cL_law 722 = .ok (.if_icmp .eq 5, 3) := by decide +kernel
theorem dL_law_725 : decode cL_law 725 = .ok (.iconst 0, 1) := by decide +kernel
theorem dL_law_726 : decode cL_law 726 = .ok (.ireturn, 1) := by decide +kernel
theorem dL_law_727 : decode cL_law 727 = .ok (.iload 6, 2) := by decide +kernel
theorem dL_law_729 : decode cL_law 729 = .ok (.ifCond .ne 15, 3) := by decide +kernel
theorem dL_law_732 : decode cL_law 732 = .ok (.aload_n 3, 1) := by decide +kernel
theorem dL_law_733 : decode cL_law 733 = .ok (.iconst 0, 1) := by decide +kernel
theorem dL_law_734 : decode cL_law 734 = .ok (.laload, 1) := by decide +kernel
theorem dL_law_735 : decode cL_law 735 = .ok (.iload 7, 2) := by decide +kernel
theorem dL_law_737 : decode cL_law 737 = .ok (.i2l, 1) := by decide +kernel
theorem dL_law_738 : decode cL_law 738 = .ok (.lcmp, 1) := by decide +kernel
theorem dL_law_739 : decode cL_law 739 = .ok (.ifCond .eq 5, 3) := by decide +kernel
theorem dL_law_742 : decode cL_law 742 = .ok (.iconst 0, 1) := by decide +kernel
theorem dL_law_743 : decode cL_law 743 = .ok (.ireturn, 1) := by decide +kernel
theorem dL_law_744 : decode cL_law 744 = .ok (.goto 1255, 3) := by decide +kernel
theorem dL_law_747 : decode cL_law 747 = .ok (.aload_n 1, 1) := by decide +kernel
theorem dL_law_748 : decode cL_law 748 = .ok (.invokevirtual 141, 3) := by decide +kernel
theorem dL_law_751 : decode cL_law 751 = .ok (.aload_n 2, 1) := by decide +kernel
theorem dL_law_752 : decode cL_law 752 = .ok (.invokevirtual 144, 3) := by decide +kernel
theorem dL_law_755 : decode cL_law 755 = .ok (.if_icmp .eq 1244, 3) := by decide +kernel
theorem dL_law_758 : decode cL_law 758 = .ok (.iconst 0, 1) := by decide +kernel
theorem dL_law_759 : decode cL_law 759 = .ok (.ireturn, 1) := by decide +kernel
theorem dL_law_760 : decode cL_law 760 = .ok (.aload_n 1, 1) := by decide +kernel
theorem dL_law_761 : decode cL_law 761 = .ok (.invokevirtual 145, 3) := by decide +kernel
theorem dL_law_764 : decode cL_law 764 = .ok (.aload_n 2, 1) := by decide +kernel
theorem dL_law_765 : decode cL_law 765 = .ok (.invokevirtual 148, 3) := by decide +kernel
theorem dL_law_768 : decode cL_law 768 = .ok (.if_icmp .eq 1231, 3) := by decide +kernel
theorem dL_law_771 : decode cL_law 771 = .ok (.iconst 0, 1) := by decide +kernel
theorem dL_law_772 : decode cL_law 772 = .ok (.ireturn, 1) := by decide +kernel
theorem dL_law_773 : decode cL_law 773 = .ok (.aload_n 1, 1) := by decide +kernel
theorem dL_law_774 : decode cL_law 774 = .ok (.invokevirtual 149, 3) := by decide +kernel
theorem dL_law_777 : decode cL_law 777 = .ok (.aload_n 2, 1) := by decide +kernel
theorem dL_law_778 : decode cL_law 778 = .ok (.invokevirtual 152, 3) := by decide +kernel
theorem dL_law_781 : decode cL_law 781 = .ok (.if_icmp .eq 1218, 3) := by decide +kernel
theorem dL_law_784 : decode cL_law 784 = .ok (.iconst 0, 1) := by decide +kernel
theorem dL_law_785 : decode cL_law 785 = .ok (.ireturn, 1) := by decide +kernel
theorem dL_law_786 : decode cL_law 786 = .ok (.aload_n 1, 1) := by decide +kernel
theorem dL_law_787 : decode cL_law 787 = .ok (.invokevirtual 153, 3) := by decide +kernel
theorem dL_law_790 : decode cL_law 790 = .ok (.aload_n 2, 1) := by decide +kernel
theorem dL_law_791 : decode cL_law 791 = .ok (.invokevirtual 156, 3) := by decide +kernel
theorem dL_law_794 : decode cL_law 794 = .ok (.if_icmp .eq 1205, 3) := by decide +kernel
theorem dL_law_797 : decode cL_law 797 = .ok (.iconst 0, 1) := by decide +kernel
theorem dL_law_798 : decode cL_law 798 = .ok (.ireturn, 1) := by decide +kernel
theorem dL_law_799 : decode cL_law 799 = .ok (.aload_n 1, 1) := by decide +kernel
theorem dL_law_800 : decode cL_law 800 = .ok (.aload_n 0, 1) := by decide +kernel
theorem dL_law_801 : decode cL_law 801 = .ok (.iload 5, 2) := by decide +kernel
theorem dL_law_803 : decode cL_law 803 = .ok (.iconst 1, 1) := by decide +kernel
theorem dL_law_804 : decode cL_law 804 = .ok (.iadd, 1) := by decide +kernel
theorem dL_law_805 : decode cL_law 805 = .ok (.iaload, 1) := by decide +kernel
theorem dL_law_806 : decode cL_law 806 = .ok (.aload_n 0, 1) := by decide +kernel
theorem dL_law_807 : decode cL_law 807 = .ok (.iload 5, 2) := by decide +kernel
theorem dL_law_809 : decode cL_law 809 = .ok (.iconst 2, 1) := by decide +kernel
theorem dL_law_810 : decode cL_law 810 = .ok (.iadd, 1) := by decide +kernel
theorem dL_law_811 : decode cL_law 811 = .ok (.iaload, 1) := by decide +kernel
theorem dL_law_812 : decode cL_law 812 = .ok (.aload_n 0, 1) := by decide +kernel
theorem dL_law_813 : decode cL_law 813 = .ok (.iload 5, 2) := by decide +kernel
theorem dL_law_815 : decode cL_law 815 = .ok (.iconst 3, 1) := by decide +kernel
theorem dL_law_816 : decode cL_law 816 = .ok (.iadd, 1) := by decide +kernel
theorem dL_law_817 : decode cL_law 817 = .ok (.iaload, 1) := by decide +kernel
theorem dL_law_818 : decode cL_law 818 = .ok (.invokevirtual 157, 3) := by decide +kernel
theorem dL_law_821 : decode cL_law 821 = .ok (.aload_n 2, 1) := by decide +kernel
theorem dL_law_822 : decode cL_law 822 = .ok (.aload_n 0, 1) := by decide +kernel
theorem dL_law_823 : decode cL_law 823 = .ok (.iload 5, 2) := by decide +kernel
theorem dL_law_825 : decode cL_law 825 = .ok (.iconst 1, 1) := by decide +kernel
theorem dL_law_826 : decode cL_law 826 = .ok (.iadd, 1) := by decide +kernel
theorem dL_law_827 : decode cL_law 827 = .ok (.iaload, 1) := by decide +kernel
theorem dL_law_828 : decode cL_law 828 = .ok (.aload_n 0, 1) := by decide +kernel
theorem dL_law_829 : decode cL_law 829 = .ok (.iload 5, 2) := by decide +kernel
theorem dL_law_831 : decode cL_law 831 = .ok (.iconst 2, 1) := by decide +kernel
theorem dL_law_832 : decode cL_law 832 = .ok (.iadd, 1) := by decide +kernel
theorem dL_law_833 : decode cL_law 833 = .ok (.iaload, 1) := by decide +kernel
theorem dL_law_834 : decode cL_law 834 = .ok (.aload_n 0, 1) := by decide +kernel
theorem dL_law_835 : decode cL_law 835 = .ok (.iload 5, 2) := by decide +kernel
theorem dL_law_837 : decode cL_law 837 = .ok (.iconst 3, 1) := by decide +kernel
theorem dL_law_838 : decode cL_law 838 = .ok (.iadd, 1) := by decide +kernel
theorem dL_law_839 : decode cL_law 839 = .ok (.iaload, 1) := by decide +kernel
theorem dL_law_840 : decode cL_law 840 = .ok (.invokevirtual 160, 3) := by decide +kernel
theorem dL_law_843 : decode cL_law 843 = .ok (.if_icmp .eq 1156, 3) := by decide +kernel
theorem dL_law_846 : decode cL_law 846 = .ok (.iconst 0, 1) := by decide +kernel
theorem dL_law_847 : decode cL_law 847 = .ok (.ireturn, 1) := by decide +kernel
theorem dL_law_848 : decode cL_law 848 = .ok (.aload_n 1, 1) := by decide +kernel
theorem dL_law_849 : decode cL_law 849 = .ok (.aload_n 0, 1) := by decide +kernel
theorem dL_law_850 : decode cL_law 850 = .ok (.iload 5, 2) := by decide +kernel
theorem dL_law_852 : decode cL_law 852 = .ok (.iconst 1, 1) := by decide +kernel
theorem dL_law_853 : decode cL_law 853 = .ok (.iadd, 1) := by decide +kernel
theorem dL_law_854 : decode cL_law 854 = .ok (.iaload, 1) := by decide +kernel
theorem dL_law_855 : decode cL_law 855 = .ok (.aload_n 0, 1) := by decide +kernel
theorem dL_law_856 : decode cL_law 856 = .ok (.iload 5, 2) := by decide +kernel
theorem dL_law_858 : decode cL_law 858 = .ok (.iconst 2, 1) := by decide +kernel
theorem dL_law_859 : decode cL_law 859 = .ok (.iadd, 1) := by decide +kernel
theorem dL_law_860 : decode cL_law 860 = .ok (.iaload, 1) := by decide +kernel
theorem dL_law_861 : decode cL_law 861 = .ok (.aload_n 3, 1) := by decide +kernel
theorem dL_law_862 : decode cL_law 862 = .ok (.invokestatic 161, 3) := by decide +kernel
theorem dL_law_865 : decode cL_law 865 = .ok (.istore 6, 2) := by decide +kernel
theorem dL_law_867 : decode cL_law 867 = .ok (.aload_n 2, 1) := by decide +kernel
theorem dL_law_868 : decode cL_law 868 = .ok (.aload_n 0, 1) := by decide +kernel
theorem dL_law_869 : decode cL_law 869 = .ok (.iload 5, 2) := by decide +kernel
theorem dL_law_871 : decode cL_law 871 = .ok (.iconst 1, 1) := by decide +kernel
theorem dL_law_872 : decode cL_law 872 = .ok (.iadd, 1) := by decide +kernel
theorem dL_law_873 : decode cL_law 873 = .ok (.iaload, 1) := by decide +kernel
theorem dL_law_874 : decode cL_law 874 = .ok (.aload_n 0, 1) := by decide +kernel
theorem dL_law_875 : decode cL_law 875 = .ok (.iload 5, 2) := by decide +kernel
theorem dL_law_877 : decode cL_law 877 = .ok (.iconst 2, 1) := by decide +kernel
theorem dL_law_878 : decode cL_law 878 = .ok (.iadd, 1) := by decide +kernel
theorem dL_law_879 : decode cL_law 879 = .ok (.iaload, 1) := by decide +kernel
theorem dL_law_880 : decode cL_law 880 = .ok (.invokevirtual 163, 3) := by decide +kernel
theorem dL_law_883 : decode cL_law 883 = .ok (.istore 7, 2) := by decide +kernel
theorem dL_law_885 : decode cL_law 885 = .ok (.aload_n 2, 1) := by decide +kernel
theorem dL_law_886 : decode cL_law 886 = .ok (.invokevirtual 106, 3) := by decide +kernel
theorem dL_law_889 : decode cL_law 889 = .ok (.iload 6, 2) := by decide +kernel
theorem dL_law_891 : decode cL_law 891 = .ok (.if_icmp .eq 5, 3) := by decide +kernel
theorem dL_law_894 : decode cL_law 894 = .ok (.iconst 0, 1) := by decide +kernel
theorem dL_law_895 : decode cL_law 895 = .ok (.ireturn, 1) := by decide +kernel
theorem dL_law_896 : decode cL_law 896 = .ok (.iload 6, 2) := by decide +kernel
theorem dL_law_898 : decode cL_law 898 = .ok (.ifCond .ne 15, 3) := by decide +kernel
theorem dL_law_901 : decode cL_law 901 = .ok (.aload_n 3, 1) := by decide +kernel
theorem dL_law_902 : decode cL_law 902 = .ok (.iconst 0, 1) := by decide +kernel
theorem dL_law_903 : decode cL_law 903 = .ok (.laload, 1) := by decide +kernel
theorem dL_law_904 : decode cL_law 904 = .ok (.iload 7, 2) := by decide +kernel
theorem dL_law_906 : decode cL_law 906 = .ok (.i2l, 1) := by decide +kernel
theorem dL_law_907 : decode cL_law 907 = .ok (.lcmp, 1) := by decide +kernel
theorem dL_law_908 : decode cL_law 908 = .ok (.ifCond .eq 5, 3) := by decide +kernel
theorem dL_law_911 : decode cL_law 911 = .ok (.iconst 0, 1) := by decide +kernel
theorem dL_law_912 : decode cL_law 912 = .ok (.ireturn, 1) := by decide +kernel
theorem dL_law_913 : decode cL_law 913 = .ok (.goto 1086, 3) := by decide +kernel
theorem dL_law_916 : decode cL_law 916 = .ok (.aload_n 1, 1) := by decide +kernel
theorem dL_law_917 : decode cL_law 917 = .ok (.invokevirtual 164, 3) := by decide +kernel
theorem dL_law_920 : decode cL_law 920 = .ok (.aload_n 2, 1) := by decide +kernel
theorem dL_law_921 : decode cL_law 921 = .ok (.invokevirtual 167, 3) := by decide +kernel
theorem dL_law_924 : decode cL_law 924 = .ok (.if_icmp .eq 1075, 3) := by decide +kernel
theorem dL_law_927 : decode cL_law 927 = .ok (.iconst 0, 1) := by decide +kernel
theorem dL_law_928 : decode cL_law 928 = .ok (.ireturn, 1) := by decide +kernel
theorem dL_law_929 : decode cL_law 929 = .ok (.aload_n 1, 1) := by decide +kernel
theorem dL_law_930 : decode cL_law 930 = .ok (.aload_n 0, 1) := by decide +kernel
theorem dL_law_931 : decode cL_law 931 = .ok (.iload 5, 2) := by decide +kernel
theorem dL_law_933 : decode cL_law 933 = .ok (.iconst 1, 1) := by decide +kernel
theorem dL_law_934 : decode cL_law 934 = .ok (.iadd, 1) := by decide +kernel
theorem dL_law_935 : decode cL_law 935 = .ok (.iaload, 1) := by decide +kernel
theorem dL_law_936 : decode cL_law 936 = .ok (.aload_n 0, 1) := by decide +kernel
theorem dL_law_937 : decode cL_law 937 = .ok (.iload 5, 2) := by decide +kernel
theorem dL_law_939 : decode cL_law 939 = .ok (.iconst 2, 1) := by decide +kernel
theorem dL_law_940 : decode cL_law 940 = .ok (.iadd, 1) := by decide +kernel
theorem dL_law_941 : decode cL_law 941 = .ok (.iaload, 1) := by decide +kernel
theorem dL_law_942 : decode cL_law 942 = .ok (.aload_n 3, 1) := by decide +kernel
theorem dL_law_943 : decode cL_law 943 = .ok (.invokestatic 168, 3) := by decide +kernel
theorem dL_law_946 : decode cL_law 946 = .ok (.istore 6, 2) := by decide +kernel
theorem dL_law_948 : decode cL_law 948 = .ok (.aload_n 2, 1) := by decide +kernel
theorem dL_law_949 : decode cL_law 949 = .ok (.aload_n 0, 1) := by decide +kernel
theorem dL_law_950 : decode cL_law 950 = .ok (.iload 5, 2) := by decide +kernel
theorem dL_law_952 : decode cL_law 952 = .ok (.iconst 1, 1) := by decide +kernel
theorem dL_law_953 : decode cL_law 953 = .ok (.iadd, 1) := by decide +kernel
theorem dL_law_954 : decode cL_law 954 = .ok (.iaload, 1) := by decide +kernel
theorem dL_law_955 : decode cL_law 955 = .ok (.aload_n 0, 1) := by decide +kernel
theorem dL_law_956 : decode cL_law 956 = .ok (.iload 5, 2) := by decide +kernel
theorem dL_law_958 : decode cL_law 958 = .ok (.iconst 2, 1) := by decide +kernel
theorem dL_law_959 : decode cL_law 959 = .ok (.iadd, 1) := by decide +kernel
theorem dL_law_960 : decode cL_law 960 = .ok (.iaload, 1) := by decide +kernel
theorem dL_law_961 : decode cL_law 961 = .ok (.invokevirtual 170, 3) := by decide +kernel
theorem dL_law_964 : decode cL_law 964 = .ok (.istore 7, 2) := by decide +kernel
theorem dL_law_966 : decode cL_law 966 = .ok (.aload_n 2, 1) := by decide +kernel
theorem dL_law_967 : decode cL_law 967 = .ok (.invokevirtual 106, 3) := by decide +kernel
theorem dL_law_970 : decode cL_law 970 = .ok (.iload 6, 2) := by decide +kernel
theorem dL_law_972 : decode cL_law 972 = .ok (.if_icmp .eq 5, 3) := by decide +kernel
theorem dL_law_975 : decode cL_law 975 = .ok (.iconst 0, 1) := by decide +kernel
theorem dL_law_976 : decode cL_law 976 = .ok (.ireturn, 1) := by decide +kernel
theorem dL_law_977 : decode cL_law 977 = .ok (.iload 6, 2) := by decide +kernel
theorem dL_law_979 : decode cL_law 979 = .ok (.ifCond .ne 15, 3) := by decide +kernel
theorem dL_law_982 : decode cL_law 982 = .ok (.aload_n 3, 1) := by decide +kernel
theorem dL_law_983 : decode cL_law 983 = .ok (.iconst 0, 1) := by decide +kernel
theorem dL_law_984 : decode cL_law 984 = .ok (.laload, 1) := by decide +kernel
theorem dL_law_985 : decode cL_law 985 = .ok (.iload 7, 2) := by decide +kernel
theorem dL_law_987 : decode cL_law 987 = .ok (.i2l, 1) := by decide +kernel
theorem dL_law_988 : decode cL_law 988 = .ok (.lcmp, 1) := by decide +kernel
theorem dL_law_989 : decode cL_law 989 = .ok (.ifCond .eq 5, 3) := by decide +kernel
theorem dL_law_992 : decode cL_law 992 = .ok (.iconst 0, 1) := by decide +kernel
theorem dL_law_993 : decode cL_law 993 = .ok (.ireturn, 1) := by decide +kernel
theorem dL_law_994 : decode cL_law 994 = .ok (.goto 1005, 3) := by decide +kernel
theorem dL_law_997 : decode cL_law 997 = .ok (.aload_n 1, 1) := by decide +kernel
theorem dL_law_998 : decode cL_law 998 = .ok (.aload_n 0, 1) := by decide +kernel
theorem dL_law_999 : decode cL_law 999 = .ok (.iload 5, 2) := by decide +kernel
theorem dL_law_1001 : decode cL_law 1001 = .ok (.iconst 1, 1) := by decide +kernel
theorem dL_law_1002 : decode cL_law 1002 = .ok (.iadd, 1) := by decide +kernel
theorem dL_law_1003 : decode cL_law 1003 = .ok (.iaload, 1) := by decide +kernel
theorem dL_law_1004 : decode cL_law 1004 = .ok (.aload_n 3, 1) := by decide +kernel
theorem dL_law_1005 : decode cL_law 1005 = .ok (.invokestatic 171, 3) := by decide +kernel
theorem dL_law_1008 : decode cL_law 1008 = .ok (.istore 6, 2) := by decide +kernel
theorem dL_law_1010 : decode cL_law 1010 = .ok (.aload_n 2, 1) := by decide +kernel
theorem dL_law_1011 : decode cL_law 1011 = .ok (.aload_n 0, 1) := by decide +kernel
theorem dL_law_1012 : decode cL_law 1012 = .ok (.iload 5, 2) := by decide +kernel
theorem dL_law_1014 : decode cL_law 1014 = .ok (.iconst 1, 1) := by decide +kernel
theorem dL_law_1015 : decode cL_law 1015 = .ok (.iadd, 1) := by decide +kernel
theorem dL_law_1016 : decode cL_law 1016 = .ok (.iaload, 1) := by decide +kernel
theorem dL_law_1017 : decode cL_law 1017 = .ok (.invokevirtual 174, 3) := by decide +kernel
theorem dL_law_1020 : decode cL_law 1020 = .ok (.istore 7, 2) := by decide +kernel
theorem dL_law_1022 : decode cL_law 1022 = .ok (.aload_n 2, 1) := by decide +kernel
theorem dL_law_1023 : decode cL_law 1023 = .ok (.invokevirtual 106, 3) := by decide +kernel
theorem dL_law_1026 : decode cL_law 1026 = .ok (.iload 6, 2) := by decide +kernel
theorem dL_law_1028 : decode cL_law 1028 = .ok (.if_icmp .eq 5, 3) := by decide +kernel
theorem dL_law_1031 : decode cL_law 1031 = .ok (.iconst 0, 1) := by decide +kernel
theorem dL_law_1032 : decode cL_law 1032 = .ok (.ireturn, 1) := by decide +kernel
theorem dL_law_1033 : decode cL_law 1033 = .ok (.iload 6, 2) := by decide +kernel
theorem dL_law_1035 : decode cL_law 1035 = .ok (.ifCond .ne 15, 3) := by decide +kernel
theorem dL_law_1038 : decode cL_law 1038 = .ok (.aload_n 3, 1) := by decide +kernel
theorem dL_law_1039 : decode cL_law 1039 = .ok (.iconst 0, 1) := by decide +kernel
theorem dL_law_1040 : decode cL_law 1040 = .ok (.laload, 1) := by decide +kernel
theorem dL_law_1041 : decode cL_law 1041 = .ok (.iload 7, 2) := by decide +kernel
theorem dL_law_1043 : decode cL_law 1043 = .ok (.i2l, 1) := by decide +kernel
theorem dL_law_1044 : decode cL_law 1044 = .ok (.lcmp, 1) := by decide +kernel
theorem dL_law_1045 : decode cL_law 1045 = .ok (.ifCond .eq 5, 3) := by decide +kernel
theorem dL_law_1048 : decode cL_law 1048 = .ok (.iconst 0, 1) := by decide +kernel
theorem dL_law_1049 : decode cL_law 1049 = .ok (.ireturn, 1) := by decide +kernel
theorem dL_law_1050 : decode cL_law 1050 = .ok (.goto 949, 3) := by decide +kernel
theorem dL_law_1053 : decode cL_law 1053 = .ok (.aload_n 1, 1) := by decide +kernel
theorem dL_law_1054 : decode cL_law 1054 = .ok (.aload_n 0, 1) := by decide +kernel
theorem dL_law_1055 : decode cL_law 1055 = .ok (.iload 5, 2) := by decide +kernel
theorem dL_law_1057 : decode cL_law 1057 = .ok (.iconst 1, 1) := by decide +kernel
theorem dL_law_1058 : decode cL_law 1058 = .ok (.iadd, 1) := by decide +kernel
theorem dL_law_1059 : decode cL_law 1059 = .ok (.iaload, 1) := by decide +kernel
theorem dL_law_1060 : decode cL_law 1060 = .ok (.aload_n 3, 1) := by decide +kernel
theorem dL_law_1061 : decode cL_law 1061 = .ok (.invokestatic 175, 3) := by decide +kernel
theorem dL_law_1064 : decode cL_law 1064 = .ok (.istore 6, 2) := by decide +kernel
theorem dL_law_1066 : decode cL_law 1066 = .ok (.aload_n 2, 1) := by decide +kernel
theorem dL_law_1067 : decode cL_law 1067 = .ok (.aload_n 0, 1) := by decide +kernel
theorem dL_law_1068 : decode cL_law 1068 = .ok (.iload 5, 2) := by decide +kernel
theorem dL_law_1070 : decode cL_law 1070 = .ok (.iconst 1, 1) := by decide +kernel
theorem dL_law_1071 : decode cL_law 1071 = .ok (.iadd, 1) := by decide +kernel
theorem dL_law_1072 : decode cL_law 1072 = .ok (.iaload, 1) := by decide +kernel
theorem dL_law_1073 : decode cL_law 1073 = .ok (.invokevirtual 177, 3) := by decide +kernel
theorem dL_law_1076 : decode cL_law 1076 = .ok (.istore 7, 2) := by decide +kernel
theorem dL_law_1078 : decode cL_law 1078 = .ok (.aload_n 2, 1) := by decide +kernel
theorem dL_law_1079 : decode cL_law 1079 = .ok (.invokevirtual 106, 3) := by decide +kernel
theorem dL_law_1082 : decode cL_law 1082 = .ok (.iload 6, 2) := by decide +kernel
theorem dL_law_1084 : decode cL_law 1084 = .ok (.if_icmp .eq 5, 3) := by decide +kernel
theorem dL_law_1087 : decode cL_law 1087 = .ok (.iconst 0, 1) := by decide +kernel
theorem dL_law_1088 : decode cL_law 1088 = .ok (.ireturn, 1) := by decide +kernel
theorem dL_law_1089 : decode cL_law 1089 = .ok (.iload 6, 2) := by decide +kernel
theorem dL_law_1091 : decode cL_law 1091 = .ok (.ifCond .ne 15, 3) := by decide +kernel
theorem dL_law_1094 : decode cL_law 1094 = .ok (.aload_n 3, 1) := by decide +kernel
theorem dL_law_1095 : decode cL_law 1095 = .ok (.iconst 0, 1) := by decide +kernel
theorem dL_law_1096 : decode cL_law 1096 = .ok (.laload, 1) := by decide +kernel
theorem dL_law_1097 : decode cL_law 1097 = .ok (.iload 7, 2) := by decide +kernel
theorem dL_law_1099 : decode cL_law 1099 = .ok (.i2l, 1) := by decide +kernel
theorem dL_law_1100 : decode cL_law 1100 = .ok (.lcmp, 1) := by decide +kernel
theorem dL_law_1101 : decode cL_law 1101 = .ok (.ifCond .eq 5, 3) := by decide +kernel
theorem dL_law_1104 : decode cL_law 1104 = .ok (.iconst 0, 1) := by decide +kernel
theorem dL_law_1105 : decode cL_law 1105 = .ok (.ireturn, 1) := by decide +kernel
theorem dL_law_1106 : decode cL_law 1106 = .ok (.goto 893, 3) := by decide +kernel
theorem dL_law_1109 : decode cL_law 1109 = .ok (.aload_n 1, 1) := by decide +kernel
theorem dL_law_1110 : decode cL_law 1110 = .ok (.aload_n 0, 1) := by decide +kernel
theorem dL_law_1111 : decode cL_law 1111 = .ok (.iload 5, 2) := by decide +kernel
theorem dL_law_1113 : decode cL_law 1113 = .ok (.iconst 1, 1) := by decide +kernel
theorem dL_law_1114 : decode cL_law 1114 = .ok (.iadd, 1) := by decide +kernel
theorem dL_law_1115 : decode cL_law 1115 = .ok (.iaload, 1) := by decide +kernel
theorem dL_law_1116 : decode cL_law 1116 = .ok (.aload_n 3, 1) := by decide +kernel
theorem dL_law_1117 : decode cL_law 1117 = .ok (.invokestatic 178, 3) := by decide +kernel
theorem dL_law_1120 : decode cL_law 1120 = .ok (.istore 6, 2) := by decide +kernel
theorem dL_law_1122 : decode cL_law 1122 = .ok (.aload_n 2, 1) := by decide +kernel
theorem dL_law_1123 : decode cL_law 1123 = .ok (.aload_n 0, 1) := by decide +kernel
theorem dL_law_1124 : decode cL_law 1124 = .ok (.iload 5, 2) := by decide +kernel
theorem dL_law_1126 : decode cL_law 1126 = .ok (.iconst 1, 1) := by decide +kernel
theorem dL_law_1127 : decode cL_law 1127 = .ok (.iadd, 1) := by decide +kernel
theorem dL_law_1128 : decode cL_law 1128 = .ok (.iaload, 1) := by decide +kernel
theorem dL_law_1129 : decode cL_law 1129 = .ok (.invokevirtual 180, 3) := by decide +kernel
theorem dL_law_1132 : decode cL_law 1132 = .ok (.istore 7, 2) := by decide +kernel
theorem dL_law_1134 : decode cL_law 1134 = .ok (.aload_n 2, 1) := by decide +kernel
theorem dL_law_1135 : decode cL_law 1135 = .ok (.invokevirtual 106, 3) := by decide +kernel
theorem dL_law_1138 : decode cL_law 1138 = .ok (.iload 6, 2) := by decide +kernel
theorem dL_law_1140 : decode cL_law 1140 = .ok (.if_icmp .eq 5, 3) := by decide +kernel
theorem dL_law_1143 : decode cL_law 1143 = .ok (.iconst 0, 1) := by decide +kernel
theorem dL_law_1144 : decode cL_law 1144 = .ok (.ireturn, 1) := by decide +kernel
theorem dL_law_1145 : decode cL_law 1145 = .ok (.iload 6, 2) := by decide +kernel
theorem dL_law_1147 : decode cL_law 1147 = .ok (.ifCond .ne 15, 3) := by decide +kernel
theorem dL_law_1150 : decode cL_law 1150 = .ok (.aload_n 3, 1) := by decide +kernel
theorem dL_law_1151 : decode cL_law 1151 = .ok (.iconst 0, 1) := by decide +kernel
theorem dL_law_1152 : decode cL_law 1152 = .ok (.laload, 1) := by decide +kernel
theorem dL_law_1153 : decode cL_law 1153 = .ok (.iload 7, 2) := by decide +kernel
theorem dL_law_1155 : decode cL_law 1155 = .ok (.i2l, 1) := by decide +kernel
theorem dL_law_1156 : decode cL_law 1156 = .ok (.lcmp, 1) := by decide +kernel
theorem dL_law_1157 : decode cL_law 1157 = .ok (.ifCond .eq 5, 3) := by decide +kernel
theorem dL_law_1160 : decode cL_law 1160 = .ok (.iconst 0, 1) := by decide +kernel
theorem dL_law_1161 : decode cL_law 1161 = .ok (.ireturn, 1) := by decide +kernel
theorem dL_law_1162 : decode cL_law 1162 = .ok (.goto 837, 3) := by decide +kernel
theorem dL_law_1165 : decode cL_law 1165 = .ok (.aload_n 1, 1) := by decide +kernel
theorem dL_law_1166 : decode cL_law 1166 = .ok (.aload_n 0, 1) := by decide +kernel
theorem dL_law_1167 : decode cL_law 1167 = .ok (.iload 5, 2) := by decide +kernel
theorem dL_law_1169 : decode cL_law 1169 = .ok (.iconst 1, 1) := by decide +kernel
theorem dL_law_1170 : decode cL_law 1170 = .ok (.iadd, 1) := by decide +kernel
theorem dL_law_1171 : decode cL_law 1171 = .ok (.iaload, 1) := by decide +kernel
theorem dL_law_1172 : decode cL_law 1172 = .ok (.aload_n 3, 1) := by decide +kernel
theorem dL_law_1173 : decode cL_law 1173 = .ok (.invokestatic 181, 3) := by decide +kernel
theorem dL_law_1176 : decode cL_law 1176 = .ok (.istore 6, 2) := by decide +kernel
theorem dL_law_1178 : decode cL_law 1178 = .ok (.aload_n 2, 1) := by decide +kernel
theorem dL_law_1179 : decode cL_law 1179 = .ok (.aload_n 0, 1) := by decide +kernel
theorem dL_law_1180 : decode cL_law 1180 = .ok (.iload 5, 2) := by decide +kernel
theorem dL_law_1182 : decode cL_law 1182 = .ok (.iconst 1, 1) := by decide +kernel
theorem dL_law_1183 : decode cL_law 1183 = .ok (.iadd, 1) := by decide +kernel
theorem dL_law_1184 : decode cL_law 1184 = .ok (.iaload, 1) := by decide +kernel
theorem dL_law_1185 : decode cL_law 1185 = .ok (.invokevirtual 183, 3) := by decide +kernel
theorem dL_law_1188 : decode cL_law 1188 = .ok (.istore 7, 2) := by decide +kernel
theorem dL_law_1190 : decode cL_law 1190 = .ok (.aload_n 2, 1) := by decide +kernel
theorem dL_law_1191 : decode cL_law 1191 = .ok (.invokevirtual 106, 3) := by decide +kernel
theorem dL_law_1194 : decode cL_law 1194 = .ok (.iload 6, 2) := by decide +kernel
theorem dL_law_1196 : decode cL_law 1196 = .ok (.if_icmp .eq 5, 3) := by decide +kernel
theorem dL_law_1199 : decode cL_law 1199 = .ok (.iconst 0, 1) := by decide +kernel
theorem dL_law_1200 : decode cL_law 1200 = .ok (.ireturn, 1) := by decide +kernel
theorem dL_law_1201 : decode cL_law 1201 = .ok (.iload 6, 2) := by decide +kernel
theorem dL_law_1203 : decode cL_law 1203 = .ok (.ifCond .ne 15, 3) := by decide +kernel
theorem dL_law_1206 : decode cL_law 1206 = .ok (.aload_n 3, 1) := by decide +kernel
theorem dL_law_1207 : decode cL_law 1207 = .ok (.iconst 0, 1) := by decide +kernel
theorem dL_law_1208 : decode cL_law 1208 = .ok (.laload, 1) := by decide +kernel
theorem dL_law_1209 : decode cL_law 1209 = .ok (.iload 7, 2) := by decide +kernel
theorem dL_law_1211 : decode cL_law 1211 = .ok (.i2l, 1) := by decide +kernel
theorem dL_law_1212 : decode cL_law 1212 = .ok (.lcmp, 1) := by decide +kernel
theorem dL_law_1213 : decode cL_law 1213 = .ok (.ifCond .eq 5, 3) := by decide +kernel
theorem dL_law_1216 : decode cL_law 1216 = .ok (.iconst 0, 1) := by decide +kernel
theorem dL_law_1217 : decode cL_law 1217 = .ok (.ireturn, 1) := by decide +kernel
theorem dL_law_1218 : decode cL_law 1218 = .ok (.goto 781, 3) := by decide +kernel
theorem dL_law_1221 : decode cL_law 1221 = .ok (.aload_n 1, 1) := by decide +kernel
theorem dL_law_1222 : decode cL_law 1222 = .ok (.aload_n 0, 1) := by decide +kernel
theorem dL_law_1223 : decode cL_law 1223 = .ok (.iload 5, 2) := by decide +kernel
theorem dL_law_1225 : decode cL_law 1225 = .ok (.iconst 1, 1) := by decide +kernel
theorem dL_law_1226 : decode cL_law 1226 = .ok (.iadd, 1) := by decide +kernel
theorem dL_law_1227 : decode cL_law 1227 = .ok (.iaload, 1) := by decide +kernel
theorem dL_law_1228 : decode cL_law 1228 = .ok (.aload_n 3, 1) := by decide +kernel
theorem dL_law_1229 : decode cL_law 1229 = .ok (.invokestatic 184, 3) := by decide +kernel
theorem dL_law_1232 : decode cL_law 1232 = .ok (.istore 6, 2) := by decide +kernel
theorem dL_law_1234 : decode cL_law 1234 = .ok (.aload_n 2, 1) := by decide +kernel
theorem dL_law_1235 : decode cL_law 1235 = .ok (.aload_n 0, 1) := by decide +kernel
theorem dL_law_1236 : decode cL_law 1236 = .ok (.iload 5, 2) := by decide +kernel
theorem dL_law_1238 : decode cL_law 1238 = .ok (.iconst 1, 1) := by decide +kernel
theorem dL_law_1239 : decode cL_law 1239 = .ok (.iadd, 1) := by decide +kernel
theorem dL_law_1240 : decode cL_law 1240 = .ok (.iaload, 1) := by decide +kernel
theorem dL_law_1241 : decode cL_law 1241 = .ok (.invokevirtual 186, 3) := by decide +kernel
theorem dL_law_1244 : decode cL_law 1244 = .ok (.istore 7, 2) := by decide +kernel
theorem dL_law_1246 : decode cL_law 1246 = .ok (.aload_n 2, 1) := by decide +kernel
theorem dL_law_1247 : decode cL_law 1247 = .ok (.invokevirtual 106, 3) := by decide +kernel
theorem dL_law_1250 : decode cL_law 1250 = .ok (.iload 6, 2) := by decide +kernel
theorem dL_law_1252 : decode cL_law 1252 = .ok (.if_icmp .eq 5, 3) := by decide +kernel
theorem dL_law_1255 : decode cL_law 1255 = .ok (.iconst 0, 1) := by decide +kernel
theorem dL_law_1256 : decode cL_law 1256 = .ok (.ireturn, 1) := by decide +kernel
theorem dL_law_1257 : decode cL_law 1257 = .ok (.iload 6, 2) := by decide +kernel
theorem dL_law_1259 : decode cL_law 1259 = .ok (.ifCond .ne 15, 3) := by decide +kernel
theorem dL_law_1262 : decode cL_law 1262 = .ok (.aload_n 3, 1) := by decide +kernel
theorem dL_law_1263 : decode cL_law 1263 = .ok (.iconst 0, 1) := by decide +kernel
theorem dL_law_1264 : decode cL_law 1264 = .ok (.laload, 1) := by decide +kernel
theorem dL_law_1265 : decode cL_law 1265 = .ok (.iload 7, 2) := by decide +kernel
theorem dL_law_1267 : decode cL_law 1267 = .ok (.i2l, 1) := by decide +kernel
theorem dL_law_1268 : decode cL_law 1268 = .ok (.lcmp, 1) := by decide +kernel
theorem dL_law_1269 : decode cL_law 1269 = .ok (.ifCond .eq 5, 3) := by decide +kernel
theorem dL_law_1272 : decode cL_law 1272 = .ok (.iconst 0, 1) := by decide +kernel
theorem dL_law_1273 : decode cL_law 1273 = .ok (.ireturn, 1) := by decide +kernel
theorem dL_law_1274 : decode cL_law 1274 = .ok (.goto 725, 3) := by decide +kernel
theorem dL_law_1277 : decode cL_law 1277 = .ok (.aload_n 1, 1) := by decide +kernel
theorem dL_law_1278 : decode cL_law 1278 = .ok (.aload_n 0, 1) := by decide +kernel
theorem dL_law_1279 : decode cL_law 1279 = .ok (.iload 5, 2) := by decide +kernel
theorem dL_law_1281 : decode cL_law 1281 = .ok (.iconst 1, 1) := by decide +kernel
theorem dL_law_1282 : decode cL_law 1282 = .ok (.iadd, 1) := by decide +kernel
theorem dL_law_1283 : decode cL_law 1283 = .ok (.iaload, 1) := by decide +kernel
theorem dL_law_1284 : decode cL_law 1284 = .ok (.aload_n 0, 1) := by decide +kernel
theorem dL_law_1285 : decode cL_law 1285 = .ok (.iload 5, 2) := by decide +kernel
theorem dL_law_1287 : decode cL_law 1287 = .ok (.iconst 2, 1) := by decide +kernel
theorem dL_law_1288 : decode cL_law 1288 = .ok (.iadd, 1) := by decide +kernel
theorem dL_law_1289 : decode cL_law 1289 = .ok (.iaload, 1) := by decide +kernel
theorem dL_law_1290 : decode cL_law 1290 = .ok (.aload_n 3, 1) := by decide +kernel
theorem dL_law_1291 : decode cL_law 1291 = .ok (.invokestatic 187, 3) := by decide +kernel
theorem dL_law_1294 : decode cL_law 1294 = .ok (.istore 6, 2) := by decide +kernel
theorem dL_law_1296 : decode cL_law 1296 = .ok (.aload_n 2, 1) := by decide +kernel
theorem dL_law_1297 : decode cL_law 1297 = .ok (.aload_n 0, 1) := by decide +kernel
theorem dL_law_1298 : decode cL_law 1298 = .ok (.iload 5, 2) := by decide +kernel
theorem dL_law_1300 : decode cL_law 1300 = .ok (.iconst 1, 1) := by decide +kernel
theorem dL_law_1301 : decode cL_law 1301 = .ok (.iadd, 1) := by decide +kernel
theorem dL_law_1302 : decode cL_law 1302 = .ok (.iaload, 1) := by decide +kernel
theorem dL_law_1303 : decode cL_law 1303 = .ok (.aload_n 0, 1) := by decide +kernel
theorem dL_law_1304 : decode cL_law 1304 = .ok (.iload 5, 2) := by decide +kernel
theorem dL_law_1306 : decode cL_law 1306 = .ok (.iconst 2, 1) := by decide +kernel
theorem dL_law_1307 : decode cL_law 1307 = .ok (.iadd, 1) := by decide +kernel
theorem dL_law_1308 : decode cL_law 1308 = .ok (.iaload, 1) := by decide +kernel
theorem dL_law_1309 : decode cL_law 1309 = .ok (.invokevirtual 189, 3) := by decide +kernel
theorem dL_law_1312 : decode cL_law 1312 = .ok (.istore 7, 2) := by decide +kernel
theorem dL_law_1314 : decode cL_law 1314 = .ok (.aload_n 2, 1) := by decide +kernel
theorem dL_law_1315 : decode cL_law 1315 = .ok (.invokevirtual 106, 3) := by decide +kernel
theorem dL_law_1318 : decode cL_law 1318 = .ok (.iload 6, 2) := by decide +kernel
theorem dL_law_1320 : decode cL_law 1320 = .ok (.if_icmp .eq 5, 3) := by decide +kernel
theorem dL_law_1323 : decode cL_law 1323 = .ok (.iconst 0, 1) := by decide +kernel
theorem dL_law_1324 : decode cL_law 1324 = .ok (.ireturn, 1) := by decide +kernel
theorem dL_law_1325 : decode cL_law 1325 = .ok (.iload 6, 2) := by decide +kernel
theorem dL_law_1327 : decode cL_law 1327 = .ok (.ifCond .ne 15, 3) := by decide +kernel
theorem dL_law_1330 : decode cL_law 1330 = .ok (.aload_n 3, 1) := by decide +kernel
theorem dL_law_1331 : decode cL_law 1331 = .ok (.iconst 0, 1) := by decide +kernel
theorem dL_law_1332 : decode cL_law 1332 = .ok (.laload, 1) := by decide +kernel
theorem dL_law_1333 : decode cL_law 1333 = .ok (.iload 7, 2) := by decide +kernel
theorem dL_law_1335 : decode cL_law 1335 = .ok (.i2l, 1) := by decide +kernel
theorem dL_law_1336 : decode cL_law 1336 = .ok (.lcmp, 1) := by decide +kernel
theorem dL_law_1337 : decode cL_law 1337 = .ok (.ifCond .eq 5, 3) := by decide +kernel
theorem dL_law_1340 : decode cL_law 1340 = .ok (.iconst 0, 1) := by decide +kernel
theorem dL_law_1341 : decode cL_law 1341 = .ok (.ireturn, 1) := by decide +kernel
theorem dL_law_1342 : decode cL_law 1342 = .ok (.goto 657, 3) := by decide +kernel
theorem dL_law_1345 : decode cL_law 1345 = .ok (.aload_n 1, 1) := by decide +kernel
theorem dL_law_1346 : decode cL_law 1346 = .ok (.aload_n 0, 1) := by decide +kernel
theorem dL_law_1347 : decode cL_law 1347 = .ok (.iload 5, 2) := by decide +kernel
theorem dL_law_1349 : decode cL_law 1349 = .ok (.iconst 1, 1) := by decide +kernel
theorem dL_law_1350 : decode cL_law 1350 = .ok (.iadd, 1) := by decide +kernel
theorem dL_law_1351 : decode cL_law 1351 = .ok (.iaload, 1) := by decide +kernel
theorem dL_law_1352 : decode cL_law 1352 = .ok (.aload 4, 2) := by decide +kernel
theorem dL_law_1354 : decode cL_law 1354 = .ok (.invokestatic 190, 3) := by decide +kernel
theorem dL_law_1357 : decode cL_law 1357 = .ok (.istore 6, 2) := by decide +kernel
theorem dL_law_1359 : decode cL_law 1359 = .ok (.aload_n 2, 1) := by decide +kernel
theorem dL_law_1360 : decode cL_law 1360 = .ok (.aload_n 0, 1) := by decide +kernel
theorem dL_law_1361 : decode cL_law 1361 = .ok (.iload 5, 2) := by decide +kernel
theorem dL_law_1363 : decode cL_law 1363 = .ok (.iconst 1, 1) := by decide +kernel
theorem dL_law_1364 : decode cL_law 1364 = .ok (.iadd, 1) := by decide +kernel
theorem dL_law_1365 : decode cL_law 1365 = .ok (.iaload, 1) := by decide +kernel
theorem dL_law_1366 : decode cL_law 1366 = .ok (.invokevirtual 193, 3) := by decide +kernel
theorem dL_law_1369 : decode cL_law 1369 = .ok (.dstore 7, 2) := by decide +kernel
theorem dL_law_1371 : decode cL_law 1371 = .ok (.aload_n 2, 1) := by decide +kernel
theorem dL_law_1372 : decode cL_law 1372 = .ok (.invokevirtual 106, 3) := by decide +kernel
theorem dL_law_1375 : decode cL_law 1375 = .ok (.iload 6, 2) := by decide +kernel
theorem dL_law_1377 : decode cL_law 1377 = .ok (.if_icmp .eq 5, 3) := by decide +kernel
theorem dL_law_1380 : decode cL_law 1380 = .ok (.iconst 0, 1) := by decide +kernel
theorem dL_law_1381 : decode cL_law 1381 = .ok (.ireturn, 1) := by decide +kernel
theorem dL_law_1382 : decode cL_law 1382 = .ok (.iload 6, 2) := by decide +kernel
theorem dL_law_1384 : decode cL_law 1384 = .ok (.ifCond .ne 35, 3) := by decide +kernel
theorem dL_law_1387 : decode cL_law 1387 = .ok (.aload 4, 2) := by decide +kernel
theorem dL_law_1389 : decode cL_law 1389 = .ok (.iconst 0, 1) := by decide +kernel
theorem dL_law_1390 : decode cL_law 1390 = .ok (.daload, 1) := by decide +kernel
theorem dL_law_1391 : decode cL_law 1391 = .ok (.dload 7, 2) := by decide +kernel
theorem dL_law_1393 : decode cL_law 1393 = .ok (.dcmp .l, 1) := by decide +kernel
theorem dL_law_1394 : decode cL_law 1394 = .ok (.ifCond .eq 25, 3) := by decide +kernel
theorem dL_law_1397 : decode cL_law 1397 = .ok (.aload 4, 2) := by decide +kernel
theorem dL_law_1399 : decode cL_law 1399 = .ok (.iconst 0, 1) := by decide +kernel
theorem dL_law_1400 : decode cL_law 1400 = .ok (.daload, 1) := by decide +kernel
theorem dL_law_1401 : decode cL_law 1401 = .ok (.aload 4, 2) := by decide +kernel
theorem dL_law_1403 : decode cL_law 1403 = .ok (.iconst 0, 1) := by decide +kernel
theorem dL_law_1404 : decode cL_law 1404 = .ok (.daload, 1) := by decide +kernel
theorem dL_law_1405 : decode cL_law 1405 = .ok (.dcmp .l, 1) := by decide +kernel
theorem dL_law_1406 : decode cL_law 1406 = .ok (.ifCond .eq 11, 3) := by decide +kernel
theorem dL_law_1409 : decode cL_law 1409 = .ok (.dload 7, 2) := by decide +kernel
theorem dL_law_1411 : decode cL_law 1411 = .ok (.dload 7, 2) := by decide +kernel
theorem dL_law_1413 : decode cL_law 1413 = .ok (.dcmp .l, 1) := by decide +kernel
theorem dL_law_1414 : decode cL_law 1414 = .ok (.ifCond .ne 5, 3) := by decide +kernel
theorem dL_law_1417 : decode cL_law 1417 = .ok (.iconst 0, 1) := by decide +kernel
theorem dL_law_1418 : decode cL_law 1418 = .ok (.ireturn, 1) := by decide +kernel
theorem dL_law_1419 : decode cL_law 1419 = .ok (.goto 580, 3) := by decide +kernel
theorem dL_law_1422 : decode cL_law 1422 = .ok (.aload_n 1, 1) := by decide +kernel
theorem dL_law_1423 : decode cL_law 1423 = .ok (.aload_n 0, 1) := by decide +kernel
theorem dL_law_1424 : decode cL_law 1424 = .ok (.iload 5, 2) := by decide +kernel
theorem dL_law_1426 : decode cL_law 1426 = .ok (.iconst 1, 1) := by decide +kernel
theorem dL_law_1427 : decode cL_law 1427 = .ok (.iadd, 1) := by decide +kernel
theorem dL_law_1428 : decode cL_law 1428 = .ok (.iaload, 1) := by decide +kernel
theorem dL_law_1429 : decode cL_law 1429 = .ok (.invokevirtual 194, 3) := by decide +kernel
theorem dL_law_1432 : decode cL_law 1432 = .ok (.aload_n 2, 1) := by decide +kernel
theorem dL_law_1433 : decode cL_law 1433 = .ok (.aload_n 0, 1) := by decide +kernel
theorem dL_law_1434 : decode cL_law 1434 = .ok (.iload 5, 2) := by decide +kernel
theorem dL_law_1436 : decode cL_law 1436 = .ok (.iconst 1, 1) := by decide +kernel
theorem dL_law_1437 : decode cL_law 1437 = .ok (.iadd, 1) := by decide +kernel
theorem dL_law_1438 : decode cL_law 1438 = .ok (.iaload, 1) := by decide +kernel
theorem dL_law_1439 : decode cL_law 1439 = .ok (.invokevirtual 197, 3) := by decide +kernel
theorem dL_law_1442 : decode cL_law 1442 = .ok (.if_icmp .eq 557, 3) := by decide +kernel
theorem dL_law_1445 : decode cL_law 1445 = .ok (.iconst 0, 1) := by decide +kernel
theorem dL_law_1446 : decode cL_law 1446 = .ok (.ireturn, 1) := by decide +kernel
theorem dL_law_1447 : decode cL_law 1447 = .ok (.aload_n 1, 1) := by decide +kernel
theorem dL_law_1448 : decode cL_law 1448 = .ok (.aload_n 0, 1) := by decide +kernel
theorem dL_law_1449 : decode cL_law 1449 = .ok (.iload 5, 2) := by decide +kernel
theorem dL_law_1451 : decode cL_law 1451 = .ok (.iconst 1, 1) := by decide +kernel
theorem dL_law_1452 : decode cL_law 1452 = .ok (.iadd, 1) := by decide +kernel
theorem dL_law_1453 : decode cL_law 1453 = .ok (.iaload, 1) := by decide +kernel
theorem dL_law_1454 : decode cL_law 1454 = .ok (.aload_n 3, 1) := by decide +kernel
theorem dL_law_1455 : decode cL_law 1455 = .ok (.invokestatic 198, 3) := by decide +kernel
theorem dL_law_1458 : decode cL_law 1458 = .ok (.istore 6, 2) := by decide +kernel
theorem dL_law_1460 : decode cL_law 1460 = .ok (.aload_n 2, 1) := by decide +kernel
theorem dL_law_1461 : decode cL_law 1461 = .ok (.aload_n 0, 1) := by decide +kernel
theorem dL_law_1462 : decode cL_law 1462 = .ok (.iload 5, 2) := by decide +kernel
theorem dL_law_1464 : decode cL_law 1464 = .ok (.iconst 1, 1) := by decide +kernel
theorem dL_law_1465 : decode cL_law 1465 = .ok (.iadd, 1) := by decide +kernel
theorem dL_law_1466 : decode cL_law 1466 = .ok (.iaload, 1) := by decide +kernel
theorem dL_law_1467 : decode cL_law 1467 = .ok (.invokevirtual 200, 3) := by decide +kernel
theorem dL_law_1470 : decode cL_law 1470 = .ok (.istore 7, 2) := by decide +kernel
theorem dL_law_1472 : decode cL_law 1472 = .ok (.aload_n 2, 1) := by decide +kernel
theorem dL_law_1473 : decode cL_law 1473 = .ok (.invokevirtual 106, 3) := by decide +kernel
theorem dL_law_1476 : decode cL_law 1476 = .ok (.iload 6, 2) := by decide +kernel
theorem dL_law_1478 : decode cL_law 1478 = .ok (.if_icmp .eq 5, 3) := by decide +kernel
theorem dL_law_1481 : decode cL_law 1481 = .ok (.iconst 0, 1) := by decide +kernel
theorem dL_law_1482 : decode cL_law 1482 = .ok (.ireturn, 1) := by decide +kernel
theorem dL_law_1483 : decode cL_law 1483 = .ok (.iload 6, 2) := by decide +kernel
theorem dL_law_1485 : decode cL_law 1485 = .ok (.ifCond .ne 15, 3) := by decide +kernel
theorem dL_law_1488 : decode cL_law 1488 = .ok (.aload_n 3, 1) := by decide +kernel
theorem dL_law_1489 : decode cL_law 1489 = .ok (.iconst 0, 1) := by decide +kernel
theorem dL_law_1490 : decode cL_law 1490 = .ok (.laload, 1) := by decide +kernel
theorem dL_law_1491 : decode cL_law 1491 = .ok (.iload 7, 2) := by decide +kernel
theorem dL_law_1493 : decode cL_law 1493 = .ok (.i2l, 1) := by decide +kernel
theorem dL_law_1494 : decode cL_law 1494 = .ok (.lcmp, 1) := by decide +kernel
theorem dL_law_1495 : decode cL_law 1495 = .ok (.ifCond .eq 5, 3) := by decide +kernel
theorem dL_law_1498 : decode cL_law 1498 = .ok (.iconst 0, 1) := by decide +kernel
theorem dL_law_1499 : decode cL_law 1499 = .ok (.ireturn, 1) := by decide +kernel
theorem dL_law_1500 : decode cL_law 1500 = .ok (.goto 499, 3) := by decide +kernel
theorem dL_law_1503 : decode cL_law 1503 = .ok (.aload_n 1, 1) := by decide +kernel
theorem dL_law_1504 : decode cL_law 1504 = .ok (.invokevirtual 201, 3) := by decide +kernel
theorem dL_law_1507 : decode cL_law 1507 = .ok (.aload_n 2, 1) := by decide +kernel
theorem dL_law_1508 : decode cL_law 1508 = .ok (.invokevirtual 204, 3) := by decide +kernel
theorem dL_law_1511 : decode cL_law 1511 = .ok (.if_icmp .eq 488, 3) := by decide +kernel
theorem dL_law_1514 : decode cL_law 1514 = .ok (.iconst 0, 1) := by decide +kernel
theorem dL_law_1515 : decode cL_law 1515 = .ok (.ireturn, 1) := by decide +kernel
theorem dL_law_1516 : decode cL_law 1516 = .ok (.aload_n 1, 1) := by decide +kernel
theorem dL_law_1517 : decode cL_law 1517 = .ok (.aload_n 0, 1) := by decide +kernel
theorem dL_law_1518 : decode cL_law 1518 = .ok (.iload 5, 2) := by decide +kernel
theorem dL_law_1520 : decode cL_law 1520 = .ok (.iconst 1, 1) := by decide +kernel
theorem dL_law_1521 : decode cL_law 1521 = .ok (.iadd, 1) := by decide +kernel
theorem dL_law_1522 : decode cL_law 1522 = .ok (.iaload, 1) := by decide +kernel
theorem dL_law_1523 : decode cL_law 1523 = .ok (.aload_n 0, 1) := by decide +kernel
theorem dL_law_1524 : decode cL_law 1524 = .ok (.iload 5, 2) := by decide +kernel
theorem dL_law_1526 : decode cL_law 1526 = .ok (.iconst 2, 1) := by decide +kernel
theorem dL_law_1527 : decode cL_law 1527 = .ok (.iadd, 1) := by decide +kernel
theorem dL_law_1528 : decode cL_law 1528 = .ok (.iaload, 1) := by decide +kernel
theorem dL_law_1529 : decode cL_law 1529 = .ok (.aload_n 3, 1) := by decide +kernel
theorem dL_law_1530 : decode cL_law 1530 = .ok (.invokestatic 205, 3) := by decide +kernel
theorem dL_law_1533 : decode cL_law 1533 = .ok (.istore 6, 2) := by decide +kernel
theorem dL_law_1535 : decode cL_law 1535 = .ok (.aload_n 2, 1) := by decide +kernel
theorem dL_law_1536 : decode cL_law 1536 = .ok (.aload_n 0, 1) := by decide +kernel
theorem dL_law_1537 : decode cL_law 1537 = .ok (.iload 5, 2) := by decide +kernel
theorem dL_law_1539 : decode cL_law 1539 = .ok (.iconst 1, 1) := by decide +kernel
theorem dL_law_1540 : decode cL_law 1540 = .ok (.iadd, 1) := by decide +kernel
theorem dL_law_1541 : decode cL_law 1541 = .ok (.iaload, 1) := by decide +kernel
theorem dL_law_1542 : decode cL_law 1542 = .ok (.aload_n 0, 1) := by decide +kernel
theorem dL_law_1543 : decode cL_law 1543 = .ok (.iload 5, 2) := by decide +kernel
theorem dL_law_1545 : decode cL_law 1545 = .ok (.iconst 2, 1) := by decide +kernel
theorem dL_law_1546 : decode cL_law 1546 = .ok (.iadd, 1) := by decide +kernel
theorem dL_law_1547 : decode cL_law 1547 = .ok (.iaload, 1) := by decide +kernel
theorem dL_law_1548 : decode cL_law 1548 = .ok (.invokevirtual 207, 3) := by decide +kernel
theorem dL_law_1551 : decode cL_law 1551 = .ok (.istore 7, 2) := by decide +kernel
theorem dL_law_1553 : decode cL_law 1553 = .ok (.aload_n 2, 1) := by decide +kernel
theorem dL_law_1554 : decode cL_law 1554 = .ok (.invokevirtual 106, 3) := by decide +kernel
theorem dL_law_1557 : decode cL_law 1557 = .ok (.iload 6, 2) := by decide +kernel
theorem dL_law_1559 : decode cL_law 1559 = .ok (.if_icmp .eq 5, 3) := by decide +kernel
theorem dL_law_1562 : decode cL_law 1562 = .ok (.iconst 0, 1) := by decide +kernel
theorem dL_law_1563 : decode cL_law 1563 = .ok (.ireturn, 1) := by decide +kernel
theorem dL_law_1564 : decode cL_law 1564 = .ok (.iload 6, 2) := by decide +kernel
theorem dL_law_1566 : decode cL_law 1566 = .ok (.ifCond .ne 15, 3) := by decide +kernel
theorem dL_law_1569 : decode cL_law 1569 = .ok (.aload_n 3, 1) := by decide +kernel
theorem dL_law_1570 : decode cL_law 1570 = .ok (.iconst 0, 1) := by decide +kernel
theorem dL_law_1571 : decode cL_law 1571 = .ok (.laload, 1) := by decide +kernel
theorem dL_law_1572 : decode cL_law 1572 = .ok (.iload 7, 2) := by decide +kernel
theorem dL_law_1574 : decode cL_law 1574 = .ok (.i2l, 1) := by decide +kernel
theorem dL_law_1575 : decode cL_law 1575 = .ok (.lcmp, 1) := by decide +kernel
theorem dL_law_1576 : decode cL_law 1576 = .ok (.ifCond .eq 5, 3) := by decide +kernel
theorem dL_law_1579 : decode cL_law 1579 = .ok (.iconst 0, 1) := by decide +kernel
theorem dL_law_1580 : decode cL_law 1580 = .ok (.ireturn, 1) := by decide +kernel
theorem dL_law_1581 : decode cL_law 1581 = .ok (.goto 418, 3) := by decide +kernel
theorem dL_law_1584 : decode cL_law 1584 = .ok (.aload_n 1, 1) := by decide +kernel
theorem dL_law_1585 : decode cL_law 1585 = .ok (.aload_n 0, 1) := by decide +kernel
theorem dL_law_1586 : decode cL_law 1586 = .ok (.iload 5, 2) := by decide +kernel
theorem dL_law_1588 : decode cL_law 1588 = .ok (.iconst 1, 1) := by decide +kernel
theorem dL_law_1589 : decode cL_law 1589 = .ok (.iadd, 1) := by decide +kernel
theorem dL_law_1590 : decode cL_law 1590 = .ok (.iaload, 1) := by decide +kernel
theorem dL_law_1591 : decode cL_law 1591 = .ok (.aload_n 0, 1) := by decide +kernel
theorem dL_law_1592 : decode cL_law 1592 = .ok (.iload 5, 2) := by decide +kernel
theorem dL_law_1594 : decode cL_law 1594 = .ok (.iconst 2, 1) := by decide +kernel
theorem dL_law_1595 : decode cL_law 1595 = .ok (.iadd, 1) := by decide +kernel
theorem dL_law_1596 : decode cL_law 1596 = .ok (.iaload, 1) := by decide +kernel
theorem dL_law_1597 : decode cL_law 1597 = .ok (.aload_n 3, 1) := by decide +kernel
theorem dL_law_1598 : decode cL_law 1598 = .ok (.invokestatic 208, 3) := by decide +kernel
theorem dL_law_1601 : decode cL_law 1601 = .ok (.istore 6, 2) := by decide +kernel
theorem dL_law_1603 : decode cL_law 1603 = .ok (.aload_n 2, 1) := by decide +kernel
theorem dL_law_1604 : decode cL_law 1604 = .ok (.aload_n 0, 1) := by decide +kernel
theorem dL_law_1605 : decode cL_law 1605 = .ok (.iload 5, 2) := by decide +kernel
