theorem dX6_joinLeftRow_53 : decode cX6_joinLeftRow 53 = .ok (.iload 11, 2) := by decide +kernel
theorem dX6_joinLeftRow_55 : decode cX6_joinLeftRow 55 = .ok (.iload 9, 2) := by decide +kernel
theorem dX6_joinLeftRow_57 : decode cX6_joinLeftRow 57 = .ok (.if_icmp .ge 74, 3) := by decide +kernel
theorem dX6_joinLeftRow_60 : decode cX6_joinLeftRow 60 = .ok (.aload_n 3, 1) := by decide +kernel
theorem dX6_joinLeftRow_61 : decode cX6_joinLeftRow 61 = .ok (.iload 11, 2) := by decide +kernel
theorem dX6_joinLeftRow_63 : decode cX6_joinLeftRow 63 = .ok (.invokevirtual 74, 3) := by decide +kernel
theorem dX6_joinLeftRow_66 : decode cX6_joinLeftRow 66 = .ok (.invokestatic 123, 3) := by decide +kernel
theorem dX6_joinLeftRow_69 : decode cX6_joinLeftRow 69 = .ok (.istore 12, 2) := by decide +kernel
theorem dX6_joinLeftRow_71 : decode cX6_joinLeftRow 71 = .ok (.aload 4, 2) := by decide +kernel
theorem dX6_joinLeftRow_73 : decode cX6_joinLeftRow 73 = .ok (.iload 5, 2) := by decide +kernel
theorem dX6_joinLeftRow_75 : decode cX6_joinLeftRow 75 = .ok (.iload 6, 2) := by decide +kernel
theorem dX6_joinLeftRow_77 : decode cX6_joinLeftRow 77 = .ok (.iload 7, 2) := by decide +kernel
theorem dX6_joinLeftRow_79 : decode cX6_joinLeftRow 79 = .ok (.iload 12, 2) := by decide +kernel
theorem dX6_joinLeftRow_81 : decode cX6_joinLeftRow 81 = .ok (.invokevirtual 126, 3) := by decide +kernel
theorem dX6_joinLeftRow_84 : decode cX6_joinLeftRow 84 = .ok (.ifCond .eq 41, 3) := by decide +kernel
theorem dX6_joinLeftRow_87 : decode cX6_joinLeftRow 87 = .ok (.iload_n 2, 1) := by decide +kernel
theorem dX6_joinLeftRow_88 : decode cX6_joinLeftRow 88 = .ok (.aload_n 3, 1) := by decide +kernel
theorem dX6_joinLeftRow_89 : decode cX6_joinLeftRow 89 = .ok (.iload 11, 2) := by decide +kernel
theorem dX6_joinLeftRow_91 : decode cX6_joinLeftRow 91 = .ok (.invokevirtual 84, 3) := by decide +kernel
theorem dX6_joinLeftRow_94 : decode cX6_joinLeftRow 94 = .ok (.imul, 1) := by decide +kernel
theorem dX6_joinLeftRow_95 : decode cX6_joinLeftRow 95 = .ok (.istore 13, 2) := by decide +kernel
theorem dX6_joinLeftRow_97 : decode cX6_joinLeftRow 97 = .ok (.aload_n 0, 1) := by decide +kernel
theorem dX6_joinLeftRow_98 : decode cX6_joinLeftRow 98 = .ok (.getfield 14, 3) := by decide +kernel
theorem dX6_joinLeftRow_101 : decode cX6_joinLeftRow 101 = .ok (.iload 5, 2) := by decide +kernel
theorem dX6_joinLeftRow_103 : decode cX6_joinLeftRow 103 = .ok (.iload 6, 2) := by decide +kernel
theorem dX6_joinLeftRow_105 : decode cX6_joinLeftRow 105 = .ok (.iload 7, 2) := by decide +kernel
theorem dX6_joinLeftRow_107 : decode cX6_joinLeftRow 107 = .ok (.iload 12, 2) := by decide +kernel
theorem dX6_joinLeftRow_109 : decode cX6_joinLeftRow 109 = .ok (.imul, 1) := by decide +kernel
theorem dX6_joinLeftRow_110 : decode cX6_joinLeftRow 110 = .ok (.invokestatic 132, 3) := by decide +kernel
theorem dX6_joinLeftRow_113 : decode cX6_joinLeftRow 113 = .ok (.iload 13, 2) := by decide +kernel
theorem dX6_joinLeftRow_115 : decode cX6_joinLeftRow 115 = .ok (.invokevirtual 136, 3) := by decide +kernel
theorem dX6_joinLeftRow_118 : decode cX6_joinLeftRow 118 = .ok (.iload 10, 2) := by decide +kernel
theorem dX6_joinLeftRow_120 : decode cX6_joinLeftRow 120 = .ok (.iload 13, 2) := by decide +kernel
theorem dX6_joinLeftRow_122 : decode cX6_joinLeftRow 122 = .ok (.iadd, 1) := by decide +kernel
theorem dX6_joinLeftRow_123 : decode cX6_joinLeftRow 123 = .ok (.istore 10, 2) := by decide +kernel
theorem dX6_joinLeftRow_125 : decode cX6_joinLeftRow 125 = .ok (.iinc 11 1, 3) := by decide +kernel
theorem dX6_joinLeftRow_128 : decode cX6_joinLeftRow 128 = .ok (.goto (-75), 3) := by decide +kernel
theorem dX6_joinLeftRow_131 : decode cX6_joinLeftRow 131 = .ok (.iload 10, 2) := by decide +kernel
theorem dX6_joinLeftRow_133 : decode cX6_joinLeftRow 133 = .ok (.ireturn, 1) := by decide +kernel
theorem dX7_init_0 : decode cX7_init 0 = .ok (.aload_n 0, 1) := by decide +kernel
theorem dX7_init_1 : decode cX7_init 1 = .ok (.invokespecial 3, 3) := by decide +kernel
theorem dX7_init_4 : decode cX7_init 4 = .ok (.aload_n 0, 1) := by decide +kernel
theorem dX7_init_5 : decode cX7_init 5 = .ok (.bipush 6, 2) := by decide +kernel
theorem dX7_init_7 : decode cX7_init 7 = .ok (.newarray .int, 2) := by decide +kernel
theorem dX7_init_9 : decode cX7_init 9 = .ok (.putfield 9, 3) := by decide +kernel
theorem dX7_init_12 : decode cX7_init 12 = .ok (.aload_n 0, 1) := by decide +kernel
theorem dX7_init_13 : decode cX7_init 13 = .ok (.bipush 6, 2) := by decide +kernel
theorem dX7_init_15 : decode cX7_init 15 = .ok (.newarray .int, 2) := by decide +kernel
theorem dX7_init_17 : decode cX7_init 17 = .ok (.putfield 15, 3) := by decide +kernel
theorem dX7_init_20 : decode cX7_init 20 = .ok (.aload_n 0, 1) := by decide +kernel
theorem dX7_init_21 : decode cX7_init 21 = .ok (.iconst 0, 1) := by decide +kernel
theorem dX7_init_22 : decode cX7_init 22 = .ok (.putfield 18, 3) := by decide +kernel
theorem dX7_init_25 : decode cX7_init 25 = .ok (.return_, 1) := by decide +kernel
theorem dX7_size_0 : decode cX7_size 0 = .ok (.aload_n 0, 1) := by decide +kernel
theorem dX7_size_1 : decode cX7_size 1 = .ok (.getfield 18, 3) := by decide +kernel
theorem dX7_size_4 : decode cX7_size 4 = .ok (.ireturn, 1) := by decide +kernel
theorem dX7_isUp_0 : decode cX7_isUp 0 = .ok (.aload_n 0, 1) := by decide +kernel
theorem dX7_isUp_1 : decode cX7_isUp 1 = .ok (.iload_n 1, 1) := by decide +kernel
theorem dX7_isUp_2 : decode cX7_isUp 2 = .ok (.invokevirtual 22, 3) := by decide +kernel
theorem dX7_isUp_5 : decode cX7_isUp 5 = .ok (.ifCond .eq 26, 3) := by decide +kernel
theorem dX7_isUp_8 : decode cX7_isUp 8 = .ok (.aload_n 2, 1) := by decide +kernel
theorem dX7_isUp_9 : decode cX7_isUp 9 = .ok (.aload_n 0, 1) := by decide +kernel
theorem dX7_isUp_10 : decode cX7_isUp 10 = .ok (.getfield 9, 3) := by decide +kernel
theorem dX7_isUp_13 : decode cX7_isUp 13 = .ok (.iload_n 1, 1) := by decide +kernel
theorem dX7_isUp_14 : decode cX7_isUp 14 = .ok (.iaload, 1) := by decide +kernel
theorem dX7_isUp_15 : decode cX7_isUp 15 = .ok (.aload_n 0, 1) := by decide +kernel
theorem dX7_isUp_16 : decode cX7_isUp 16 = .ok (.getfield 15, 3) := by decide +kernel
theorem dX7_isUp_19 : decode cX7_isUp 19 = .ok (.iload_n 1, 1) := by decide +kernel
theorem dX7_isUp_20 : decode cX7_isUp 20 = .ok (.iaload, 1) := by decide +kernel
theorem dX7_isUp_21 : decode cX7_isUp 21 = .ok (.invokevirtual 26, 3) := by decide +kernel
theorem dX7_isUp_24 : decode cX7_isUp 24 = .ok (.ifCond .eq 7, 3) := by decide +kernel
theorem dX7_isUp_27 : decode cX7_isUp 27 = .ok (.iconst 1, 1) := by decide +kernel
theorem dX7_isUp_28 : decode cX7_isUp 28 = .ok (.goto 4, 3) := by decide +kernel
theorem dX7_isUp_31 : decode cX7_isUp 31 = .ok (.iconst 0, 1) := by decide +kernel
theorem dX7_isUp_32 : decode cX7_isUp 32 = .ok (.ireturn, 1) := by decide +kernel
theorem dX7_append_0 : decode cX7_append 0 = .ok (.aload_n 0, 1) := by decide +kernel
theorem dX7_append_1 : decode cX7_append 1 = .ok (.getfield 18, 3) := by decide +kernel
theorem dX7_append_4 : decode cX7_append 4 = .ok (.ifCond .lt 57, 3) := by decide +kernel
theorem dX7_append_7 : decode cX7_append 7 = .ok (.aload_n 0, 1) := by decide +kernel
theorem dX7_append_8 : decode cX7_append 8 = .ok (.getfield 18, 3) := by decide +kernel
theorem dX7_append_11 : decode cX7_append 11 = .ok (.aload_n 0, 1) := by decide +kernel
theorem dX7_append_12 : decode cX7_append 12 = .ok (.getfield 9, 3) := by decide +kernel
theorem dX7_append_15 : decode cX7_append 15 = .ok (.arraylength, 1) := by decide +kernel
theorem dX7_append_16 : decode cX7_append 16 = .ok (.if_icmp .ge 45, 3) := by decide +kernel
theorem dX7_append_19 : decode cX7_append 19 = .ok (.aload_n 0, 1) := by decide +kernel
theorem dX7_append_20 : decode cX7_append 20 = .ok (.getfield 18, 3) := by decide +kernel
theorem dX7_append_23 : decode cX7_append 23 = .ok (.aload_n 0, 1) := by decide +kernel
theorem dX7_append_24 : decode cX7_append 24 = .ok (.getfield 15, 3) := by decide +kernel
theorem dX7_append_27 : decode cX7_append 27 = .ok (.arraylength, 1) := by decide +kernel
theorem dX7_append_28 : decode cX7_append 28 = .ok (.if_icmp .ge 33, 3) := by decide +kernel
theorem dX7_append_31 : decode cX7_append 31 = .ok (.aload_n 0, 1) := by decide +kernel
theorem dX7_append_32 : decode cX7_append 32 = .ok (.getfield 9, 3) := by decide +kernel
theorem dX7_append_35 : decode cX7_append 35 = .ok (.aload_n 0, 1) := by decide +kernel
theorem dX7_append_36 : decode cX7_append 36 = .ok (.getfield 18, 3) := by decide +kernel
theorem dX7_append_39 : decode cX7_append 39 = .ok (.iload_n 1, 1) := by decide +kernel
theorem dX7_append_40 : decode cX7_append 40 = .ok (.iastore, 1) := by decide +kernel
theorem dX7_append_41 : decode cX7_append 41 = .ok (.aload_n 0, 1) := by decide +kernel
theorem dX7_append_42 : decode cX7_append 42 = .ok (.getfield 15, 3) := by decide +kernel
theorem dX7_append_45 : decode cX7_append 45 = .ok (.aload_n 0, 1) := by decide +kernel
theorem dX7_append_46 : decode cX7_append 46 = .ok (.getfield 18, 3) := by decide +kernel
theorem dX7_append_49 : decode cX7_append 49 = .ok (.iload_n 2, 1) := by decide +kernel
theorem dX7_append_50 : decode cX7_append 50 = .ok (.iastore, 1) := by decide +kernel
theorem dX7_append_51 : decode cX7_append 51 = .ok (.aload_n 0, 1) := by decide +kernel
theorem dX7_append_52 : decode cX7_append 52 = .ok (.dup, 1) := by decide +kernel
theorem dX7_append_53 : decode cX7_append 53 = .ok (.getfield 18, 3) := by decide +kernel
theorem dX7_append_56 : decode cX7_append 56 = .ok (.iconst 1, 1) := by decide +kernel
theorem dX7_append_57 : decode cX7_append 57 = .ok (.iadd, 1) := by decide +kernel
theorem dX7_append_58 : decode cX7_append 58 = .ok (.putfield 18, 3) := by decide +kernel
theorem dX7_append_61 : decode cX7_append 61 = .ok (.return_, 1) := by decide +kernel
theorem dX7_clear_0 : decode cX7_clear 0 = .ok (.aload_n 0, 1) := by decide +kernel
theorem dX7_clear_1 : decode cX7_clear 1 = .ok (.iconst 0, 1) := by decide +kernel
theorem dX7_clear_2 : decode cX7_clear 2 = .ok (.putfield 18, 3) := by decide +kernel
theorem dX7_clear_5 : decode cX7_clear 5 = .ok (.return_, 1) := by decide +kernel
theorem dX7_copyFrom_0 : decode cX7_copyFrom 0 = .ok (.aload_n 0, 1) := by decide +kernel
theorem dX7_copyFrom_1 : decode cX7_copyFrom 1 = .ok (.invokevirtual 32, 3) := by decide +kernel
theorem dX7_copyFrom_4 : decode cX7_copyFrom 4 = .ok (.iconst 0, 1) := by decide +kernel
theorem dX7_copyFrom_5 : decode cX7_copyFrom 5 = .ok (.istore_n 2, 1) := by decide +kernel
theorem dX7_copyFrom_6 : decode cX7_copyFrom 6 = .ok (.iload_n 2, 1) := by decide +kernel
theorem dX7_copyFrom_7 : decode cX7_copyFrom 7 = .ok (.aload_n 1, 1) := by decide +kernel
theorem dX7_copyFrom_8 : decode cX7_copyFrom 8 = .ok (.getfield 18, 3) := by decide +kernel
theorem dX7_copyFrom_11 : decode cX7_copyFrom 11 = .ok (.if_icmp .ge 33, 3) := by decide +kernel
theorem dX7_copyFrom_14 : decode cX7_copyFrom 14 = .ok (.aload_n 1, 1) := by decide +kernel
theorem dX7_copyFrom_15 : decode cX7_copyFrom 15 = .ok (.iload_n 2, 1) := by decide +kernel
theorem dX7_copyFrom_16 : decode cX7_copyFrom 16 = .ok (.invokevirtual 22, 3) := by decide +kernel
theorem dX7_copyFrom_19 : decode cX7_copyFrom 19 = .ok (.ifCond .eq 19, 3) := by decide +kernel
theorem dX7_copyFrom_22 : decode cX7_copyFrom 22 = .ok (.aload_n 0, 1) := by decide +kernel
theorem dX7_copyFrom_23 : decode cX7_copyFrom 23 = .ok (.aload_n 1, 1) := by decide +kernel
theorem dX7_copyFrom_24 : decode cX7_copyFrom 24 = .ok (.getfield 9, 3) := by decide +kernel
theorem dX7_copyFrom_27 : decode cX7_copyFrom 27 = .ok (.iload_n 2, 1) := by decide +kernel
theorem dX7_copyFrom_28 : decode cX7_copyFrom 28 = .ok (.iaload, 1) := by decide +kernel
theorem dX7_copyFrom_29 : decode cX7_copyFrom 29 = .ok (.aload_n 1, 1) := by decide +kernel
theorem dX7_copyFrom_30 : decode cX7_copyFrom 30 = .ok (.getfield 15, 3) := by decide +kernel
theorem dX7_copyFrom_33 : decode cX7_copyFrom 33 = .ok (.iload_n 2, 1) := by decide +kernel
theorem dX7_copyFrom_34 : decode cX7_copyFrom 34 = .ok (.iaload, 1) := by decide +kernel
theorem dX7_copyFrom_35 : decode cX7_copyFrom 35 = .ok (.invokevirtual 35, 3) := by decide +kernel
theorem dX7_copyFrom_38 : decode cX7_copyFrom 38 = .ok (.iinc 2 1, 3) := by decide +kernel
theorem dX7_copyFrom_41 : decode cX7_copyFrom 41 = .ok (.goto (-35), 3) := by decide +kernel
theorem dX7_copyFrom_44 : decode cX7_copyFrom 44 = .ok (.return_, 1) := by decide +kernel
theorem dX7_isFilled_0 : decode cX7_isFilled 0 = .ok (.iload_n 1, 1) := by decide +kernel
theorem dX7_isFilled_1 : decode cX7_isFilled 1 = .ok (.ifCond .lt 33, 3) := by decide +kernel
theorem dX7_isFilled_4 : decode cX7_isFilled 4 = .ok (.iload_n 1, 1) := by decide +kernel
theorem dX7_isFilled_5 : decode cX7_isFilled 5 = .ok (.aload_n 0, 1) := by decide +kernel
theorem dX7_isFilled_6 : decode cX7_isFilled 6 = .ok (.getfield 18, 3) := by decide +kernel
theorem dX7_isFilled_9 : decode cX7_isFilled 9 = .ok (.if_icmp .ge 25, 3) := by decide +kernel
theorem dX7_isFilled_12 : decode cX7_isFilled 12 = .ok (.iload_n 1, 1) := by decide +kernel
theorem dX7_isFilled_13 : decode cX7_isFilled 13 = .ok (.aload_n 0, 1) := by decide +kernel
theorem dX7_isFilled_14 : decode cX7_isFilled 14 = .ok (.getfield 9, 3) := by decide +kernel
theorem dX7_isFilled_17 : decode cX7_isFilled 17 = .ok (.arraylength, 1) := by decide +kernel
theorem dX7_isFilled_18 : decode cX7_isFilled 18 = .ok (.if_icmp .ge 16, 3) := by decide +kernel
theorem dX7_isFilled_21 : decode cX7_isFilled 21 = .ok (.iload_n 1, 1) := by decide +kernel
theorem dX7_isFilled_22 : decode cX7_isFilled 22 = .ok (.aload_n 0, 1) := by decide +kernel
theorem dX7_isFilled_23 : decode cX7_isFilled 23 = .ok (.getfield 15, 3) := by decide +kernel
theorem dX7_isFilled_26 : decode cX7_isFilled 26 = .ok (.arraylength, 1) := by decide +kernel
theorem dX7_isFilled_27 : decode cX7_isFilled 27 = .ok (.if_icmp .ge 7, 3) := by decide +kernel
theorem dX7_isFilled_30 : decode cX7_isFilled 30 = .ok (.iconst 1, 1) := by decide +kernel
theorem dX7_isFilled_31 : decode cX7_isFilled 31 = .ok (.goto 4, 3) := by decide +kernel
theorem dX7_isFilled_34 : decode cX7_isFilled 34 = .ok (.iconst 0, 1) := by decide +kernel
theorem dX7_isFilled_35 : decode cX7_isFilled 35 = .ok (.ireturn, 1) := by decide +kernel
theorem dX8_init_0 : decode cX8_init 0 = .ok (.aload_n 0, 1) := by decide +kernel
theorem dX8_init_1 : decode cX8_init 1 = .ok (.invokespecial 3, 3) := by decide +kernel
theorem dX8_init_4 : decode cX8_init 4 = .ok (.aload_n 0, 1) := by decide +kernel
theorem dX8_init_5 : decode cX8_init 5 = .ok (.new 9, 3) := by decide +kernel
theorem dX8_init_8 : decode cX8_init 8 = .ok (.dup, 1) := by decide +kernel
theorem dX8_init_9 : decode cX8_init 9 = .ok (.invokespecial 11, 3) := by decide +kernel
theorem dX8_init_12 : decode cX8_init 12 = .ok (.putfield 12, 3) := by decide +kernel
theorem dX8_init_15 : decode cX8_init 15 = .ok (.aload_n 0, 1) := by decide +kernel
theorem dX8_init_16 : decode cX8_init 16 = .ok (.new 9, 3) := by decide +kernel
theorem dX8_init_19 : decode cX8_init 19 = .ok (.dup, 1) := by decide +kernel
theorem dX8_init_20 : decode cX8_init 20 = .ok (.invokespecial 11, 3) := by decide +kernel
theorem dX8_init_23 : decode cX8_init 23 = .ok (.putfield 16, 3) := by decide +kernel
theorem dX8_init_26 : decode cX8_init 26 = .ok (.aload_n 0, 1) := by decide +kernel
theorem dX8_init_27 : decode cX8_init 27 = .ok (.iconst 0, 1) := by decide +kernel
theorem dX8_init_28 : decode cX8_init 28 = .ok (.putfield 19, 3) := by decide +kernel
theorem dX8_init_31 : decode cX8_init 31 = .ok (.aload_n 0, 1) := by decide +kernel
theorem dX8_init_32 : decode cX8_init 32 = .ok (.new 23, 3) := by decide +kernel
theorem dX8_init_35 : decode cX8_init 35 = .ok (.dup, 1) := by decide +kernel
theorem dX8_init_36 : decode cX8_init 36 = .ok (.invokespecial 25, 3) := by decide +kernel
theorem dX8_init_39 : decode cX8_init 39 = .ok (.putfield 26, 3) := by decide +kernel
theorem dX8_init_42 : decode cX8_init 42 = .ok (.aload_n 0, 1) := by decide +kernel
theorem dX8_init_43 : decode cX8_init 43 = .ok (.new 30, 3) := by decide +kernel
theorem dX8_init_46 : decode cX8_init 46 = .ok (.dup, 1) := by decide +kernel
theorem dX8_init_47 : decode cX8_init 47 = .ok (.invokespecial 32, 3) := by decide +kernel
theorem dX8_init_50 : decode cX8_init 50 = .ok (.putfield 33, 3) := by decide +kernel
theorem dX8_init_53 : decode cX8_init 53 = .ok (.aload_n 0, 1) := by decide +kernel
theorem dX8_init_54 : decode cX8_init 54 = .ok (.new 37, 3) := by decide +kernel
theorem dX8_init_57 : decode cX8_init 57 = .ok (.dup, 1) := by decide +kernel
theorem dX8_init_58 : decode cX8_init 58 = .ok (.invokespecial 39, 3) := by decide +kernel
theorem dX8_init_61 : decode cX8_init 61 = .ok (.putfield 40, 3) := by decide +kernel
theorem dX8_init_64 : decode cX8_init 64 = .ok (.aload_n 0, 1) := by decide +kernel
theorem dX8_init_65 : decode cX8_init 65 = .ok (.iconst (-1), 1) := by decide +kernel
theorem dX8_init_66 : decode cX8_init 66 = .ok (.putfield 44, 3) := by decide +kernel
theorem dX8_init_69 : decode cX8_init 69 = .ok (.aload_n 0, 1) := by decide +kernel
theorem dX8_init_70 : decode cX8_init 70 = .ok (.new 47, 3) := by decide +kernel
theorem dX8_init_73 : decode cX8_init 73 = .ok (.dup, 1) := by decide +kernel
theorem dX8_init_74 : decode cX8_init 74 = .ok (.invokespecial 49, 3) := by decide +kernel
theorem dX8_init_77 : decode cX8_init 77 = .ok (.putfield 50, 3) := by decide +kernel
theorem dX8_init_80 : decode cX8_init 80 = .ok (.aload_n 0, 1) := by decide +kernel
theorem dX8_init_81 : decode cX8_init 81 = .ok (.new 54, 3) := by decide +kernel
theorem dX8_init_84 : decode cX8_init 84 = .ok (.dup, 1) := by decide +kernel
theorem dX8_init_85 : decode cX8_init 85 = .ok (.invokespecial 56, 3) := by decide +kernel
theorem dX8_init_88 : decode cX8_init 88 = .ok (.putfield 57, 3) := by decide +kernel
theorem dX8_init_91 : decode cX8_init 91 = .ok (.aload_n 0, 1) := by decide +kernel
theorem dX8_init_92 : decode cX8_init 92 = .ok (.iconst 0, 1) := by decide +kernel
theorem dX8_init_93 : decode cX8_init 93 = .ok (.putfield 61, 3) := by decide +kernel
theorem dX8_init_96 : decode cX8_init 96 = .ok (.aload_n 0, 1) := by decide +kernel
theorem dX8_init_97 : decode cX8_init 97 = .ok (.new 9, 3) := by decide +kernel
theorem dX8_init_100 : decode cX8_init 100 = .ok (.dup, 1) := by decide +kernel
theorem dX8_init_101 : decode cX8_init 101 = .ok (.invokespecial 11, 3) := by decide +kernel
theorem dX8_init_104 : decode cX8_init 104 = .ok (.putfield 65, 3) := by decide +kernel
theorem dX8_init_107 : decode cX8_init 107 = .ok (.aload_n 0, 1) := by decide +kernel
theorem dX8_init_108 : decode cX8_init 108 = .ok (.new 30, 3) := by decide +kernel
theorem dX8_init_111 : decode cX8_init 111 = .ok (.dup, 1) := by decide +kernel
theorem dX8_init_112 : decode cX8_init 112 = .ok (.invokespecial 32, 3) := by decide +kernel
theorem dX8_init_115 : decode cX8_init 115 = .ok (.putfield 68, 3) := by decide +kernel
theorem dX8_init_118 : decode cX8_init 118 = .ok (.aload_n 0, 1) := by decide +kernel
theorem dX8_init_119 : decode cX8_init 119 = .ok (.new 47, 3) := by decide +kernel
theorem dX8_init_122 : decode cX8_init 122 = .ok (.dup, 1) := by decide +kernel
theorem dX8_init_123 : decode cX8_init 123 = .ok (.invokespecial 49, 3) := by decide +kernel
theorem dX8_init_126 : decode cX8_init 126 = .ok (.putfield 71, 3) := by decide +kernel
theorem dX8_init_129 : decode cX8_init 129 = .ok (.return_, 1) := by decide +kernel
theorem dX8_insertLeft_0 : decode cX8_insertLeft 0 = .ok (.iload_n 1, 1) := by decide +kernel
theorem dX8_insertLeft_1 : decode cX8_insertLeft 1 = .ok (.iload_n 2, 1) := by decide +kernel
theorem dX8_insertLeft_2 : decode cX8_insertLeft 2 = .ok (.iload_n 3, 1) := by decide +kernel
theorem dX8_insertLeft_3 : decode cX8_insertLeft 3 = .ok (.invokestatic 74, 3) := by decide +kernel
theorem dX8_insertLeft_6 : decode cX8_insertLeft 6 = .ok (.aload_n 0, 1) := by decide +kernel
theorem dX8_insertLeft_7 : decode cX8_insertLeft 7 = .ok (.invokevirtual 78, 3) := by decide +kernel
theorem dX8_insertLeft_10 : decode cX8_insertLeft 10 = .ok (.aload_n 0, 1) := by decide +kernel
theorem dX8_insertLeft_11 : decode cX8_insertLeft 11 = .ok (.getfield 16, 3) := by decide +kernel
theorem dX8_insertLeft_14 : decode cX8_insertLeft 14 = .ok (.getfield 81, 3) := by decide +kernel
theorem dX8_insertLeft_17 : decode cX8_insertLeft 17 = .ok (.invokestatic 85, 3) := by decide +kernel
theorem dX8_insertLeft_20 : decode cX8_insertLeft 20 = .ok (.aload_n 0, 1) := by decide +kernel
theorem dX8_insertLeft_21 : decode cX8_insertLeft 21 = .ok (.aload_n 0, 1) := by decide +kernel
theorem dX8_insertLeft_22 : decode cX8_insertLeft 22 = .ok (.getfield 16, 3) := by decide +kernel
theorem dX8_insertLeft_25 : decode cX8_insertLeft 25 = .ok (.getfield 81, 3) := by decide +kernel
theorem dX8_insertLeft_28 : decode cX8_insertLeft 28 = .ok (.iload_n 1, 1) := by decide +kernel
theorem dX8_insertLeft_29 : decode cX8_insertLeft 29 = .ok (.iload_n 2, 1) := by decide +kernel
theorem dX8_insertLeft_30 : decode cX8_insertLeft 30 = .ok (.iload_n 3, 1) := by decide +kernel
theorem dX8_insertLeft_31 : decode cX8_insertLeft 31 = .ok (.invokestatic 89, 3) := by decide +kernel
theorem dX8_insertLeft_34 : decode cX8_insertLeft 34 = .ok (.iconst 1, 1) := by decide +kernel
theorem dX8_insertLeft_35 : decode cX8_insertLeft 35 = .ok (.invokevirtual 93, 3) := by decide +kernel
theorem dX8_insertLeft_38 : decode cX8_insertLeft 38 = .ok (.ireturn, 1) := by decide +kernel
theorem dX8_deleteLeft_0 : decode cX8_deleteLeft 0 = .ok (.iload_n 1, 1) := by decide +kernel
theorem dX8_deleteLeft_1 : decode cX8_deleteLeft 1 = .ok (.iload_n 2, 1) := by decide +kernel
theorem dX8_deleteLeft_2 : decode cX8_deleteLeft 2 = .ok (.iload_n 3, 1) := by decide +kernel
theorem dX8_deleteLeft_3 : decode cX8_deleteLeft 3 = .ok (.invokestatic 74, 3) := by decide +kernel
theorem dX8_deleteLeft_6 : decode cX8_deleteLeft 6 = .ok (.aload_n 0, 1) := by decide +kernel
theorem dX8_deleteLeft_7 : decode cX8_deleteLeft 7 = .ok (.invokevirtual 78, 3) := by decide +kernel
theorem dX8_deleteLeft_10 : decode cX8_deleteLeft 10 = .ok (.iload_n 1, 1) := by decide +kernel
theorem dX8_deleteLeft_11 : decode cX8_deleteLeft 11 = .ok (.iload_n 2, 1) := by decide +kernel
theorem dX8_deleteLeft_12 : decode cX8_deleteLeft 12 = .ok (.iload_n 3, 1) := by decide +kernel
theorem dX8_deleteLeft_13 : decode cX8_deleteLeft 13 = .ok (.invokestatic 89, 3) := by decide +kernel
theorem dX8_deleteLeft_16 : decode cX8_deleteLeft 16 = .ok (.istore 4, 2) := by decide +kernel
theorem dX8_deleteLeft_18 : decode cX8_deleteLeft 18 = .ok (.aload_n 0, 1) := by decide +kernel
theorem dX8_deleteLeft_19 : decode cX8_deleteLeft 19 = .ok (.getfield 16, 3) := by decide +kernel
theorem dX8_deleteLeft_22 : decode cX8_deleteLeft 22 = .ok (.getfield 81, 3) := by decide +kernel
theorem dX8_deleteLeft_25 : decode cX8_deleteLeft 25 = .ok (.iload 4, 2) := by decide +kernel
theorem dX8_deleteLeft_27 : decode cX8_deleteLeft 27 = .ok (.invokestatic 97, 3) := by decide +kernel
theorem dX8_deleteLeft_30 : decode cX8_deleteLeft 30 = .ok (.aload_n 0, 1) := by decide +kernel
theorem dX8_deleteLeft_31 : decode cX8_deleteLeft 31 = .ok (.aload_n 0, 1) := by decide +kernel
theorem dX8_deleteLeft_32 : decode cX8_deleteLeft 32 = .ok (.getfield 16, 3) := by decide +kernel
theorem dX8_deleteLeft_35 : decode cX8_deleteLeft 35 = .ok (.getfield 81, 3) := by decide +kernel
theorem dX8_deleteLeft_38 : decode cX8_deleteLeft 38 = .ok (.iload 4, 2) := by decide +kernel
theorem dX8_deleteLeft_40 : decode cX8_deleteLeft 40 = .ok (.iconst (-1), 1) := by decide +kernel
theorem dX8_deleteLeft_41 : decode cX8_deleteLeft 41 = .ok (.invokevirtual 93, 3) := by decide +kernel
theorem dX8_deleteLeft_44 : decode cX8_deleteLeft 44 = .ok (.ireturn, 1) := by decide +kernel
theorem dX8_insertRight_0 : decode cX8_insertRight 0 = .ok (.iload_n 1, 1) := by decide +kernel
theorem dX8_insertRight_1 : decode cX8_insertRight 1 = .ok (.iload_n 2, 1) := by decide +kernel
theorem dX8_insertRight_2 : decode cX8_insertRight 2 = .ok (.invokestatic 101, 3) := by decide +kernel
theorem dX8_insertRight_5 : decode cX8_insertRight 5 = .ok (.aload_n 0, 1) := by decide +kernel
theorem dX8_insertRight_6 : decode cX8_insertRight 6 = .ok (.invokevirtual 78, 3) := by decide +kernel
theorem dX8_insertRight_9 : decode cX8_insertRight 9 = .ok (.aload_n 0, 1) := by decide +kernel
theorem dX8_insertRight_10 : decode cX8_insertRight 10 = .ok (.getfield 16, 3) := by decide +kernel
theorem dX8_insertRight_13 : decode cX8_insertRight 13 = .ok (.getfield 105, 3) := by decide +kernel
theorem dX8_insertRight_16 : decode cX8_insertRight 16 = .ok (.invokestatic 85, 3) := by decide +kernel
theorem dX8_insertRight_19 : decode cX8_insertRight 19 = .ok (.aload_n 0, 1) := by decide +kernel
theorem dX8_insertRight_20 : decode cX8_insertRight 20 = .ok (.aload_n 0, 1) := by decide +kernel
theorem dX8_insertRight_21 : decode cX8_insertRight 21 = .ok (.getfield 16, 3) := by decide +kernel
theorem dX8_insertRight_24 : decode cX8_insertRight 24 = .ok (.getfield 105, 3) := by decide +kernel
theorem dX8_insertRight_27 : decode cX8_insertRight 27 = .ok (.iload_n 1, 1) := by decide +kernel
theorem dX8_insertRight_28 : decode cX8_insertRight 28 = .ok (.iload_n 2, 1) := by decide +kernel
theorem dX8_insertRight_29 : decode cX8_insertRight 29 = .ok (.invokestatic 108, 3) := by decide +kernel
theorem dX8_insertRight_32 : decode cX8_insertRight 32 = .ok (.iconst 1, 1) := by decide +kernel
theorem dX8_insertRight_33 : decode cX8_insertRight 33 = .ok (.invokevirtual 93, 3) := by decide +kernel
theorem dX8_insertRight_36 : decode cX8_insertRight 36 = .ok (.ireturn, 1) := by decide +kernel
theorem dX8_deleteRight_0 : decode cX8_deleteRight 0 = .ok (.iload_n 1, 1) := by decide +kernel
theorem dX8_deleteRight_1 : decode cX8_deleteRight 1 = .ok (.iload_n 2, 1) := by decide +kernel
theorem dX8_deleteRight_2 : decode cX8_deleteRight 2 = .ok (.invokestatic 101, 3) := by decide +kernel
theorem dX8_deleteRight_5 : decode cX8_deleteRight 5 = .ok (.aload_n 0, 1) := by decide +kernel
theorem dX8_deleteRight_6 : decode cX8_deleteRight 6 = .ok (.invokevirtual 78, 3) := by decide +kernel
theorem dX8_deleteRight_9 : decode cX8_deleteRight 9 = .ok (.iload_n 1, 1) := by decide +kernel
theorem dX8_deleteRight_10 : decode cX8_deleteRight 10 = .ok (.iload_n 2, 1) := by decide +kernel
theorem dX8_deleteRight_11 : decode cX8_deleteRight 11 = .ok (.invokestatic 108, 3) := by decide +kernel
theorem dX8_deleteRight_14 : decode cX8_deleteRight 14 = .ok (.istore_n 3, 1) := by decide +kernel
theorem dX8_deleteRight_15 : decode cX8_deleteRight 15 = .ok (.aload_n 0, 1) := by decide +kernel
theorem dX8_deleteRight_16 : decode cX8_deleteRight 16 = .ok (.getfield 16, 3) := by decide +kernel
theorem dX8_deleteRight_19 : decode cX8_deleteRight 19 = .ok (.getfield 105, 3) := by decide +kernel
theorem dX8_deleteRight_22 : decode cX8_deleteRight 22 = .ok (.iload_n 3, 1) := by decide +kernel
theorem dX8_deleteRight_23 : decode cX8_deleteRight 23 = .ok (.invokestatic 97, 3) := by decide +kernel
theorem dX8_deleteRight_26 : decode cX8_deleteRight 26 = .ok (.aload_n 0, 1) := by decide +kernel
theorem dX8_deleteRight_27 : decode cX8_deleteRight 27 = .ok (.aload_n 0, 1) := by decide +kernel
theorem dX8_deleteRight_28 : decode cX8_deleteRight 28 = .ok (.getfield 16, 3) := by decide +kernel
theorem dX8_deleteRight_31 : decode cX8_deleteRight 31 = .ok (.getfield 105, 3) := by decide +kernel
theorem dX8_deleteRight_34 : decode cX8_deleteRight 34 = .ok (.iload_n 3, 1) := by decide +kernel
theorem dX8_deleteRight_35 : decode cX8_deleteRight 35 = .ok (.iconst (-1), 1) := by decide +kernel
theorem dX8_deleteRight_36 : decode cX8_deleteRight 36 = .ok (.invokevirtual 93, 3) := by decide +kernel
theorem dX8_deleteRight_39 : decode cX8_deleteRight 39 = .ok (.ireturn, 1) := by decide +kernel
theorem dX8_batchSize_0 : decode cX8_batchSize 0 = .ok (.aload_n 0, 1) := by decide +kernel
theorem dX8_batchSize_1 : decode cX8_batchSize 1 = .ok (.getfield 19, 3) := by decide +kernel
theorem dX8_batchSize_4 : decode cX8_batchSize 4 = .ok (.ireturn, 1) := by decide +kernel
theorem dX8_discard_0 : decode cX8_discard 0 = .ok (.aload_n 0, 1) := by decide +kernel
theorem dX8_discard_1 : decode cX8_discard 1 = .ok (.getfield 19, 3) := by decide +kernel
theorem dX8_discard_4 : decode cX8_discard 4 = .ok (.istore_n 1, 1) := by decide +kernel
theorem dX8_discard_5 : decode cX8_discard 5 = .ok (.aload_n 0, 1) := by decide +kernel
theorem dX8_discard_6 : decode cX8_discard 6 = .ok (.invokevirtual 112, 3) := by decide +kernel
theorem dX8_discard_9 : decode cX8_discard 9 = .ok (.iload_n 1, 1) := by decide +kernel
theorem dX8_discard_10 : decode cX8_discard 10 = .ok (.ireturn, 1) := by decide +kernel
theorem dX8_apply_0 : decode cX8_apply 0 = .ok (.aload_n 0, 1) := by decide +kernel
theorem dX8_apply_1 : decode cX8_apply 1 = .ok (.getfield 26, 3) := by decide +kernel
theorem dX8_apply_4 : decode cX8_apply 4 = .ok (.aload_n 0, 1) := by decide +kernel
theorem dX8_apply_5 : decode cX8_apply 5 = .ok (.getfield 12, 3) := by decide +kernel
theorem dX8_apply_8 : decode cX8_apply 8 = .ok (.invokevirtual 115, 3) := by decide +kernel
theorem dX8_apply_11 : decode cX8_apply 11 = .ok (.aload_n 0, 1) := by decide +kernel
theorem dX8_apply_12 : decode cX8_apply 12 = .ok (.getfield 12, 3) := by decide +kernel
theorem dX8_apply_15 : decode cX8_apply 15 = .ok (.aload_n 0, 1) := by decide +kernel
theorem dX8_apply_16 : decode cX8_apply 16 = .ok (.getfield 16, 3) := by decide +kernel
theorem dX8_apply_19 : decode cX8_apply 19 = .ok (.invokevirtual 119, 3) := by decide +kernel
theorem dX8_apply_22 : decode cX8_apply 22 = .ok (.aload_n 0, 1) := by decide +kernel
theorem dX8_apply_23 : decode cX8_apply 23 = .ok (.iconst 0, 1) := by decide +kernel
theorem dX8_apply_24 : decode cX8_apply 24 = .ok (.putfield 19, 3) := by decide +kernel
theorem dX8_apply_27 : decode cX8_apply 27 = .ok (.aload_n 0, 1) := by decide +kernel
theorem dX8_apply_28 : decode cX8_apply 28 = .ok (.getfield 57, 3) := by decide +kernel
theorem dX8_apply_31 : decode cX8_apply 31 = .ok (.aload_n 0, 1) := by decide +kernel
theorem dX8_apply_32 : decode cX8_apply 32 = .ok (.getfield 12, 3) := by decide +kernel
theorem dX8_apply_35 : decode cX8_apply 35 = .ok (.aload_n 0, 1) := by decide +kernel
theorem dX8_apply_36 : decode cX8_apply 36 = .ok (.getfield 33, 3) := by decide +kernel
theorem dX8_apply_39 : decode cX8_apply 39 = .ok (.invokevirtual 122, 3) := by decide +kernel
theorem dX8_apply_42 : decode cX8_apply 42 = .ok (.ireturn, 1) := by decide +kernel
theorem dX8_rollback_0 : decode cX8_rollback 0 = .ok (.aload_n 0, 1) := by decide +kernel
theorem dX8_rollback_1 : decode cX8_rollback 1 = .ok (.getfield 26, 3) := by decide +kernel
theorem dX8_rollback_4 : decode cX8_rollback 4 = .ok (.invokevirtual 126, 3) := by decide +kernel
theorem dX8_rollback_7 : decode cX8_rollback 7 = .ok (.ifCond .eq 13, 3) := by decide +kernel
theorem dX8_rollback_10 : decode cX8_rollback 10 = .ok (.new 130, 3) := by decide +kernel
theorem dX8_rollback_13 : decode cX8_rollback 13 = .ok (.dup, 1) := by decide +kernel
theorem dX8_rollback_14 : decode cX8_rollback 14 = .ok (.ldc 132, 2) := by decide +kernel
theorem dX8_rollback_16 : decode cX8_rollback 16 = .ok (.invokespecial 134, 3) := by decide +kernel
theorem dX8_rollback_19 : decode cX8_rollback 19 = .ok (.athrow, 1) := by decide +kernel
theorem dX8_rollback_20 : decode cX8_rollback 20 = .ok (.aload_n 0, 1) := by decide +kernel
theorem dX8_rollback_21 : decode cX8_rollback 21 = .ok (.getfield 26, 3) := by decide +kernel
theorem dX8_rollback_24 : decode cX8_rollback 24 = .ok (.aload_n 0, 1) := by decide +kernel
theorem dX8_rollback_25 : decode cX8_rollback 25 = .ok (.getfield 12, 3) := by decide +kernel
theorem dX8_rollback_28 : decode cX8_rollback 28 = .ok (.invokevirtual 137, 3) := by decide +kernel
theorem dX8_rollback_31 : decode cX8_rollback 31 = .ok (.aload_n 0, 1) := by decide +kernel
theorem dX8_rollback_32 : decode cX8_rollback 32 = .ok (.invokevirtual 112, 3) := by decide +kernel
theorem dX8_rollback_35 : decode cX8_rollback 35 = .ok (.aload_n 0, 1) := by decide +kernel
theorem dX8_rollback_36 : decode cX8_rollback 36 = .ok (.getfield 57, 3) := by decide +kernel
theorem dX8_rollback_39 : decode cX8_rollback 39 = .ok (.aload_n 0, 1) := by decide +kernel
theorem dX8_rollback_40 : decode cX8_rollback 40 = .ok (.getfield 12, 3) := by decide +kernel
theorem dX8_rollback_43 : decode cX8_rollback 43 = .ok (.aload_n 0, 1) := by decide +kernel
theorem dX8_rollback_44 : decode cX8_rollback 44 = .ok (.getfield 33, 3) := by decide +kernel
theorem dX8_rollback_47 : decode cX8_rollback 47 = .ok (.invokevirtual 122, 3) := by decide +kernel
theorem dX8_rollback_50 : decode cX8_rollback 50 = .ok (.ireturn, 1) := by decide +kernel
theorem dX8_leftCount_0 : decode cX8_leftCount 0 = .ok (.iload_n 1, 1) := by decide +kernel
theorem dX8_leftCount_1 : decode cX8_leftCount 1 = .ok (.iload_n 2, 1) := by decide +kernel
theorem dX8_leftCount_2 : decode cX8_leftCount 2 = .ok (.iload_n 3, 1) := by decide +kernel
theorem dX8_leftCount_3 : decode cX8_leftCount 3 = .ok (.invokestatic 74, 3) := by decide +kernel
theorem dX8_leftCount_6 : decode cX8_leftCount 6 = .ok (.aload_n 0, 1) := by decide +kernel
theorem dX8_leftCount_7 : decode cX8_leftCount 7 = .ok (.getfield 12, 3) := by decide +kernel
theorem dX8_leftCount_10 : decode cX8_leftCount 10 = .ok (.getfield 81, 3) := by decide +kernel
theorem dX8_leftCount_13 : decode cX8_leftCount 13 = .ok (.iload_n 1, 1) := by decide +kernel
theorem dX8_leftCount_14 : decode cX8_leftCount 14 = .ok (.iload_n 2, 1) := by decide +kernel
theorem dX8_leftCount_15 : decode cX8_leftCount 15 = .ok (.iload_n 3, 1) := by decide +kernel
theorem dX8_leftCount_16 : decode cX8_leftCount 16 = .ok (.invokestatic 89, 3) := by decide +kernel
theorem dX8_leftCount_19 : decode cX8_leftCount 19 = .ok (.invokevirtual 140, 3) := by decide +kernel
theorem dX8_leftCount_22 : decode cX8_leftCount 22 = .ok (.ireturn, 1) := by decide +kernel
theorem dX8_rightCount_0 : decode cX8_rightCount 0 = .ok (.iload_n 1, 1) := by decide +kernel
theorem dX8_rightCount_1 : decode cX8_rightCount 1 = .ok (.iload_n 2, 1) := by decide +kernel
theorem dX8_rightCount_2 : decode cX8_rightCount 2 = .ok (.invokestatic 101, 3) := by decide +kernel
theorem dX8_rightCount_5 : decode cX8_rightCount 5 = .ok (.aload_n 0, 1) := by decide +kernel
theorem dX8_rightCount_6 : decode cX8_rightCount 6 = .ok (.getfield 12, 3) := by decide +kernel
theorem dX8_rightCount_9 : decode cX8_rightCount 9 = .ok (.getfield 105, 3) := by decide +kernel
theorem dX8_rightCount_12 : decode cX8_rightCount 12 = .ok (.iload_n 1, 1) := by decide +kernel
theorem dX8_rightCount_13 : decode cX8_rightCount 13 = .ok (.iload_n 2, 1) := by decide +kernel
theorem dX8_rightCount_14 : decode cX8_rightCount 14 = .ok (.invokestatic 108, 3) := by decide +kernel
theorem dX8_rightCount_17 : decode cX8_rightCount 17 = .ok (.invokevirtual 140, 3) := by decide +kernel
theorem dX8_rightCount_20 : decode cX8_rightCount 20 = .ok (.ireturn, 1) := by decide +kernel
theorem dX8_leftSize_0 : decode cX8_leftSize 0 = .ok (.aload_n 0, 1) := by decide +kernel
theorem dX8_leftSize_1 : decode cX8_leftSize 1 = .ok (.getfield 12, 3) := by decide +kernel
theorem dX8_leftSize_4 : decode cX8_leftSize 4 = .ok (.getfield 81, 3) := by decide +kernel
theorem dX8_leftSize_7 : decode cX8_leftSize 7 = .ok (.invokevirtual 146, 3) := by decide +kernel
theorem dX8_leftSize_10 : decode cX8_leftSize 10 = .ok (.ireturn, 1) := by decide +kernel
theorem dX8_rightSize_0 : decode cX8_rightSize 0 = .ok (.aload_n 0, 1) := by decide +kernel
theorem dX8_rightSize_1 : decode cX8_rightSize 1 = .ok (.getfield 12, 3) := by decide +kernel
theorem dX8_rightSize_4 : decode cX8_rightSize 4 = .ok (.getfield 105, 3) := by decide +kernel
theorem dX8_rightSize_7 : decode cX8_rightSize 7 = .ok (.invokevirtual 146, 3) := by decide +kernel
theorem dX8_rightSize_10 : decode cX8_rightSize 10 = .ok (.ireturn, 1) := by decide +kernel
theorem dX8_joinSize_0 : decode cX8_joinSize 0 = .ok (.aload_n 0, 1) := by decide +kernel
theorem dX8_joinSize_1 : decode cX8_joinSize 1 = .ok (.getfield 57, 3) := by decide +kernel
theorem dX8_joinSize_4 : decode cX8_joinSize 4 = .ok (.invokevirtual 150, 3) := by decide +kernel
theorem dX8_joinSize_7 : decode cX8_joinSize 7 = .ok (.invokevirtual 146, 3) := by decide +kernel
theorem dX8_joinSize_10 : decode cX8_joinSize 10 = .ok (.ireturn, 1) := by decide +kernel
theorem dX8_joinDistinct_0 : decode cX8_joinDistinct 0 = .ok (.aload_n 0, 1) := by decide +kernel
theorem dX8_joinDistinct_1 : decode cX8_joinDistinct 1 = .ok (.getfield 57, 3) := by decide +kernel
theorem dX8_joinDistinct_4 : decode cX8_joinDistinct 4 = .ok (.invokevirtual 150, 3) := by decide +kernel
theorem dX8_joinDistinct_7 : decode cX8_joinDistinct 7 = .ok (.invokevirtual 154, 3) := by decide +kernel
theorem dX8_joinDistinct_10 : decode cX8_joinDistinct 10 = .ok (.ireturn, 1) := by decide +kernel
theorem dX8_joinCount_0 : decode cX8_joinCount 0 = .ok (.iload_n 1, 1) := by decide +kernel
theorem dX8_joinCount_1 : decode cX8_joinCount 1 = .ok (.invokestatic 157, 3) := by decide +kernel
theorem dX8_joinCount_4 : decode cX8_joinCount 4 = .ok (.ifCond .eq 27, 3) := by decide +kernel
theorem dX8_joinCount_7 : decode cX8_joinCount 7 = .ok (.iload_n 2, 1) := by decide +kernel
theorem dX8_joinCount_8 : decode cX8_joinCount 8 = .ok (.invokestatic 161, 3) := by decide +kernel
theorem dX8_joinCount_11 : decode cX8_joinCount 11 = .ok (.ifCond .eq 20, 3) := by decide +kernel
theorem dX8_joinCount_14 : decode cX8_joinCount 14 = .ok (.iload_n 3, 1) := by decide +kernel
theorem dX8_joinCount_15 : decode cX8_joinCount 15 = .ok (.sipush (-891), 3) := by decide +kernel
theorem dX8_joinCount_18 : decode cX8_joinCount 18 = .ok (.sipush 891, 3) := by decide +kernel
theorem dX8_joinCount_21 : decode cX8_joinCount 21 = .ok (.invokestatic 164, 3) := by decide +kernel
theorem dX8_joinCount_24 : decode cX8_joinCount 24 = .ok (.ifCond .eq 7, 3) := by decide +kernel
theorem dX8_joinCount_27 : decode cX8_joinCount 27 = .ok (.iconst 1, 1) := by decide +kernel
theorem dX8_joinCount_28 : decode cX8_joinCount 28 = .ok (.goto 4, 3) := by decide +kernel
theorem dX8_joinCount_31 : decode cX8_joinCount 31 = .ok (.iconst 0, 1) := by decide +kernel
theorem dX8_joinCount_32 : decode cX8_joinCount 32 = .ok (.istore 4, 2) := by decide +kernel
theorem dX8_joinCount_34 : decode cX8_joinCount 34 = .ok (.iload 4, 2) := by decide +kernel
theorem dX8_joinCount_36 : decode cX8_joinCount 36 = .ok (.ifCond .eq 22, 3) := by decide +kernel
theorem dX8_joinCount_39 : decode cX8_joinCount 39 = .ok (.aload_n 0, 1) := by decide +kernel
theorem dX8_joinCount_40 : decode cX8_joinCount 40 = .ok (.getfield 57, 3) := by decide +kernel
theorem dX8_joinCount_43 : decode cX8_joinCount 43 = .ok (.invokevirtual 150, 3) := by decide +kernel
theorem dX8_joinCount_46 : decode cX8_joinCount 46 = .ok (.iload_n 1, 1) := by decide +kernel
theorem dX8_joinCount_47 : decode cX8_joinCount 47 = .ok (.iload_n 2, 1) := by decide +kernel
theorem dX8_joinCount_48 : decode cX8_joinCount 48 = .ok (.iload_n 3, 1) := by decide +kernel
theorem dX8_joinCount_49 : decode cX8_joinCount 49 = .ok (.invokestatic 168, 3) := by decide +kernel
theorem dX8_joinCount_52 : decode cX8_joinCount 52 = .ok (.invokevirtual 140, 3) := by decide +kernel
theorem dX8_joinCount_55 : decode cX8_joinCount 55 = .ok (.goto 4, 3) := by decide +kernel
theorem dX8_joinCount_58 : decode cX8_joinCount 58 = .ok (.iconst 0, 1) := by decide +kernel
theorem dX8_joinCount_59 : decode cX8_joinCount 59 = .ok (.ireturn, 1) := by decide +kernel
theorem dX8_joinRow_0 : decode cX8_joinRow 0 = .ok (.iload_n 1, 1) := by decide +kernel
theorem dX8_joinRow_1 : decode cX8_joinRow 1 = .ok (.aload_n 0, 1) := by decide +kernel
theorem dX8_joinRow_2 : decode cX8_joinRow 2 = .ok (.getfield 57, 3) := by decide +kernel
theorem dX8_joinRow_5 : decode cX8_joinRow 5 = .ok (.invokevirtual 150, 3) := by decide +kernel
theorem dX8_joinRow_8 : decode cX8_joinRow 8 = .ok (.invokevirtual 154, 3) := by decide +kernel
theorem dX8_joinRow_11 : decode cX8_joinRow 11 = .ok (.invokestatic 171, 3) := by decide +kernel
theorem dX8_joinRow_14 : decode cX8_joinRow 14 = .ok (.iload_n 2, 1) := by decide +kernel
theorem dX8_joinRow_15 : decode cX8_joinRow 15 = .ok (.iconst 4, 1) := by decide +kernel
theorem dX8_joinRow_16 : decode cX8_joinRow 16 = .ok (.invokestatic 171, 3) := by decide +kernel
theorem dX8_joinRow_19 : decode cX8_joinRow 19 = .ok (.aload_n 0, 1) := by decide +kernel
theorem dX8_joinRow_20 : decode cX8_joinRow 20 = .ok (.getfield 57, 3) := by decide +kernel
theorem dX8_joinRow_23 : decode cX8_joinRow 23 = .ok (.invokevirtual 150, 3) := by decide +kernel
theorem dX8_joinRow_26 : decode cX8_joinRow 26 = .ok (.iload_n 1, 1) := by decide +kernel
theorem dX8_joinRow_27 : decode cX8_joinRow 27 = .ok (.iload_n 2, 1) := by decide +kernel
theorem dX8_joinRow_28 : decode cX8_joinRow 28 = .ok (.invokestatic 174, 3) := by decide +kernel
theorem dX8_joinRow_31 : decode cX8_joinRow 31 = .ok (.ireturn, 1) := by decide +kernel
theorem dX8_danglingCount_0 : decode cX8_danglingCount 0 = .ok (.aload_n 0, 1) := by decide +kernel
theorem dX8_danglingCount_1 : decode cX8_danglingCount 1 = .ok (.getfield 57, 3) := by decide +kernel
theorem dX8_danglingCount_4 : decode cX8_danglingCount 4 = .ok (.invokevirtual 177, 3) := by decide +kernel
theorem dX8_danglingCount_7 : decode cX8_danglingCount 7 = .ok (.invokevirtual 146, 3) := by decide +kernel
theorem dX8_danglingCount_10 : decode cX8_danglingCount 10 = .ok (.ireturn, 1) := by decide +kernel
theorem dX8_danglingRow_0 : decode cX8_danglingRow 0 = .ok (.iload_n 1, 1) := by decide +kernel
theorem dX8_danglingRow_1 : decode cX8_danglingRow 1 = .ok (.aload_n 0, 1) := by decide +kernel
theorem dX8_danglingRow_2 : decode cX8_danglingRow 2 = .ok (.getfield 57, 3) := by decide +kernel
theorem dX8_danglingRow_5 : decode cX8_danglingRow 5 = .ok (.invokevirtual 177, 3) := by decide +kernel
theorem dX8_danglingRow_8 : decode cX8_danglingRow 8 = .ok (.invokevirtual 146, 3) := by decide +kernel
theorem dX8_danglingRow_11 : decode cX8_danglingRow 11 = .ok (.invokestatic 171, 3) := by decide +kernel
theorem dX8_danglingRow_14 : decode cX8_danglingRow 14 = .ok (.iload_n 2, 1) := by decide +kernel
theorem dX8_danglingRow_15 : decode cX8_danglingRow 15 = .ok (.iconst 3, 1) := by decide +kernel
theorem dX8_danglingRow_16 : decode cX8_danglingRow 16 = .ok (.invokestatic 171, 3) := by decide +kernel
theorem dX8_danglingRow_19 : decode cX8_danglingRow 19 = .ok (.aload_n 0, 1) := by decide +kernel
theorem dX8_danglingRow_20 : decode cX8_danglingRow 20 = .ok (.getfield 57, 3) := by decide +kernel
theorem dX8_danglingRow_23 : decode cX8_danglingRow 23 = .ok (.invokevirtual 177, 3) := by decide +kernel
theorem dX8_danglingRow_26 : decode cX8_danglingRow 26 = .ok (.iload_n 1, 1) := by decide +kernel
theorem dX8_danglingRow_27 : decode cX8_danglingRow 27 = .ok (.invokevirtual 180, 3) := by decide +kernel
theorem dX8_danglingRow_30 : decode cX8_danglingRow 30 = .ok (.istore_n 3, 1) := by decide +kernel
theorem dX8_danglingRow_31 : decode cX8_danglingRow 31 = .ok (.iload_n 2, 1) := by decide +kernel
theorem dX8_danglingRow_32 : decode cX8_danglingRow 32 = .ok (.lookupswitch 38 #[(0, 28), (1, 33)], 28) := by decide +kernel
theorem dX8_danglingRow_60 : decode cX8_danglingRow 60 = .ok (.iload_n 3, 1) := by decide +kernel
theorem dX8_danglingRow_61 : decode cX8_danglingRow 61 = .ok (.invokestatic 183, 3) := by decide +kernel
theorem dX8_danglingRow_64 : decode cX8_danglingRow 64 = .ok (.ireturn, 1) := by decide +kernel
theorem dX8_danglingRow_65 : decode cX8_danglingRow 65 = .ok (.iload_n 3, 1) := by decide +kernel
theorem dX8_danglingRow_66 : decode cX8_danglingRow 66 = .ok (.invokestatic 186, 3) := by decide +kernel
theorem dX8_danglingRow_69 : decode cX8_danglingRow 69 = .ok (.ireturn, 1) := by decide +kernel
theorem dX8_danglingRow_70 : decode cX8_danglingRow 70 = .ok (.iload_n 3, 1) := by decide +kernel
theorem dX8_danglingRow_71 : decode cX8_danglingRow 71 = .ok (.invokestatic 189, 3) := by decide +kernel
theorem dX8_danglingRow_74 : decode cX8_danglingRow 74 = .ok (.ireturn, 1) := by decide +kernel
theorem dX8_groupSize_0 : decode cX8_groupSize 0 = .ok (.iload_n 1, 1) := by decide +kernel
theorem dX8_groupSize_1 : decode cX8_groupSize 1 = .ok (.bipush 6, 2) := by decide +kernel
theorem dX8_groupSize_3 : decode cX8_groupSize 3 = .ok (.invokestatic 171, 3) := by decide +kernel
theorem dX8_groupSize_6 : decode cX8_groupSize 6 = .ok (.aload_n 0, 1) := by decide +kernel
theorem dX8_groupSize_7 : decode cX8_groupSize 7 = .ok (.getfield 57, 3) := by decide +kernel
theorem dX8_groupSize_10 : decode cX8_groupSize 10 = .ok (.invokevirtual 192, 3) := by decide +kernel
theorem dX8_groupSize_13 : decode cX8_groupSize 13 = .ok (.iload_n 1, 1) := by decide +kernel
theorem dX8_groupSize_14 : decode cX8_groupSize 14 = .ok (.invokevirtual 196, 3) := by decide +kernel
theorem dX8_groupSize_17 : decode cX8_groupSize 17 = .ok (.ireturn, 1) := by decide +kernel
theorem dX8_groupSum_0 : decode cX8_groupSum 0 = .ok (.iload_n 1, 1) := by decide +kernel
theorem dX8_groupSum_1 : decode cX8_groupSum 1 = .ok (.bipush 6, 2) := by decide +kernel
theorem dX8_groupSum_3 : decode cX8_groupSum 3 = .ok (.invokestatic 171, 3) := by decide +kernel
theorem dX8_groupSum_6 : decode cX8_groupSum 6 = .ok (.aload_n 0, 1) := by decide +kernel
theorem dX8_groupSum_7 : decode cX8_groupSum 7 = .ok (.getfield 57, 3) := by decide +kernel
theorem dX8_groupSum_10 : decode cX8_groupSum 10 = .ok (.invokevirtual 192, 3) := by decide +kernel
theorem dX8_groupSum_13 : decode cX8_groupSum 13 = .ok (.iload_n 1, 1) := by decide +kernel
theorem dX8_groupSum_14 : decode cX8_groupSum 14 = .ok (.invokevirtual 201, 3) := by decide +kernel
theorem dX8_groupSum_17 : decode cX8_groupSum 17 = .ok (.ireturn, 1) := by decide +kernel
theorem dX8_groupMinimum_0 : decode cX8_groupMinimum 0 = .ok (.iload_n 1, 1) := by decide +kernel
theorem dX8_groupMinimum_1 : decode cX8_groupMinimum 1 = .ok (.bipush 6, 2) := by decide +kernel
theorem dX8_groupMinimum_3 : decode cX8_groupMinimum 3 = .ok (.invokestatic 171, 3) := by decide +kernel
theorem dX8_groupMinimum_6 : decode cX8_groupMinimum 6 = .ok (.aload_n 0, 1) := by decide +kernel
theorem dX8_groupMinimum_7 : decode cX8_groupMinimum 7 = .ok (.iload_n 1, 1) := by decide +kernel
theorem dX8_groupMinimum_8 : decode cX8_groupMinimum 8 = .ok (.invokevirtual 204, 3) := by decide +kernel
theorem dX8_groupMinimum_11 : decode cX8_groupMinimum 11 = .ok (.aload_n 0, 1) := by decide +kernel
theorem dX8_groupMinimum_12 : decode cX8_groupMinimum 12 = .ok (.getfield 57, 3) := by decide +kernel
theorem dX8_groupMinimum_15 : decode cX8_groupMinimum 15 = .ok (.iload_n 1, 1) := by decide +kernel
theorem dX8_groupMinimum_16 : decode cX8_groupMinimum 16 = .ok (.iconst 0, 1) := by decide +kernel
theorem dX8_groupMinimum_17 : decode cX8_groupMinimum 17 = .ok (.invokevirtual 208, 3) := by decide +kernel
theorem dX8_groupMinimum_20 : decode cX8_groupMinimum 20 = .ok (.ireturn, 1) := by decide +kernel
theorem dX8_groupMaximum_0 : decode cX8_groupMaximum 0 = .ok (.iload_n 1, 1) := by decide +kernel
theorem dX8_groupMaximum_1 : decode cX8_groupMaximum 1 = .ok (.bipush 6, 2) := by decide +kernel
theorem dX8_groupMaximum_3 : decode cX8_groupMaximum 3 = .ok (.invokestatic 171, 3) := by decide +kernel
theorem dX8_groupMaximum_6 : decode cX8_groupMaximum 6 = .ok (.aload_n 0, 1) := by decide +kernel
theorem dX8_groupMaximum_7 : decode cX8_groupMaximum 7 = .ok (.iload_n 1, 1) := by decide +kernel
theorem dX8_groupMaximum_8 : decode cX8_groupMaximum 8 = .ok (.invokevirtual 204, 3) := by decide +kernel
theorem dX8_groupMaximum_11 : decode cX8_groupMaximum 11 = .ok (.aload_n 0, 1) := by decide +kernel
theorem dX8_groupMaximum_12 : decode cX8_groupMaximum 12 = .ok (.getfield 57, 3) := by decide +kernel
theorem dX8_groupMaximum_15 : decode cX8_groupMaximum 15 = .ok (.iload_n 1, 1) := by decide +kernel
theorem dX8_groupMaximum_16 : decode cX8_groupMaximum 16 = .ok (.aload_n 0, 1) := by decide +kernel
theorem dX8_groupMaximum_17 : decode cX8_groupMaximum 17 = .ok (.getfield 57, 3) := by decide +kernel
theorem dX8_groupMaximum_20 : decode cX8_groupMaximum 20 = .ok (.invokevirtual 192, 3) := by decide +kernel
theorem dX8_groupMaximum_23 : decode cX8_groupMaximum 23 = .ok (.iload_n 1, 1) := by decide +kernel
theorem dX8_groupMaximum_24 : decode cX8_groupMaximum 24 = .ok (.invokevirtual 196, 3) := by decide +kernel
theorem dX8_groupMaximum_27 : decode cX8_groupMaximum 27 = .ok (.iconst 1, 1) := by decide +kernel
theorem dX8_groupMaximum_28 : decode cX8_groupMaximum 28 = .ok (.isub, 1) := by decide +kernel
theorem dX8_groupMaximum_29 : decode cX8_groupMaximum 29 = .ok (.invokevirtual 208, 3) := by decide +kernel
theorem dX8_groupMaximum_32 : decode cX8_groupMaximum 32 = .ok (.ireturn, 1) := by decide +kernel
theorem dX8_groupDistinct_0 : decode cX8_groupDistinct 0 = .ok (.iload_n 1, 1) := by decide +kernel
theorem dX8_groupDistinct_1 : decode cX8_groupDistinct 1 = .ok (.bipush 6, 2) := by decide +kernel
theorem dX8_groupDistinct_3 : decode cX8_groupDistinct 3 = .ok (.invokestatic 171, 3) := by decide +kernel
theorem dX8_groupDistinct_6 : decode cX8_groupDistinct 6 = .ok (.aload_n 0, 1) := by decide +kernel
theorem dX8_groupDistinct_7 : decode cX8_groupDistinct 7 = .ok (.getfield 57, 3) := by decide +kernel
theorem dX8_groupDistinct_10 : decode cX8_groupDistinct 10 = .ok (.iload_n 1, 1) := by decide +kernel
theorem dX8_groupDistinct_11 : decode cX8_groupDistinct 11 = .ok (.invokevirtual 211, 3) := by decide +kernel
theorem dX8_groupDistinct_14 : decode cX8_groupDistinct 14 = .ok (.ireturn, 1) := by decide +kernel
theorem dX8_groupElement_0 : decode cX8_groupElement 0 = .ok (.iload_n 1, 1) := by decide +kernel
theorem dX8_groupElement_1 : decode cX8_groupElement 1 = .ok (.bipush 6, 2) := by decide +kernel
theorem dX8_groupElement_3 : decode cX8_groupElement 3 = .ok (.invokestatic 171, 3) := by decide +kernel
theorem dX8_groupElement_6 : decode cX8_groupElement 6 = .ok (.iload_n 2, 1) := by decide +kernel
theorem dX8_groupElement_7 : decode cX8_groupElement 7 = .ok (.ifCond .lt 18, 3) := by decide +kernel
theorem dX8_groupElement_10 : decode cX8_groupElement 10 = .ok (.iload_n 2, 1) := by decide +kernel
theorem dX8_groupElement_11 : decode cX8_groupElement 11 = .ok (.aload_n 0, 1) := by decide +kernel
theorem dX8_groupElement_12 : decode cX8_groupElement 12 = .ok (.getfield 57, 3) := by decide +kernel
theorem dX8_groupElement_15 : decode cX8_groupElement 15 = .ok (.invokevirtual 192, 3) := by decide +kernel
theorem dX8_groupElement_18 : decode cX8_groupElement 18 = .ok (.iload_n 1, 1) := by decide +kernel
theorem dX8_groupElement_19 : decode cX8_groupElement 19 = .ok (.invokevirtual 196, 3) := by decide +kernel
theorem dX8_groupElement_22 : decode cX8_groupElement 22 = .ok (.if_icmp .lt 13, 3) := by decide +kernel
theorem dX8_groupElement_25 : decode cX8_groupElement 25 = .ok (.new 214, 3) := by decide +kernel
theorem dX8_groupElement_28 : decode cX8_groupElement 28 = .ok (.dup, 1) := by decide +kernel
theorem dX8_groupElement_29 : decode cX8_groupElement 29 = .ok (.ldc 216, 2) := by decide +kernel
theorem dX8_groupElement_31 : decode cX8_groupElement 31 = .ok (.invokespecial 218, 3) := by decide +kernel
theorem dX8_groupElement_34 : decode cX8_groupElement 34 = .ok (.athrow, 1) := by decide +kernel
theorem dX8_groupElement_35 : decode cX8_groupElement 35 = .ok (.aload_n 0, 1) := by decide +kernel
theorem dX8_groupElement_36 : decode cX8_groupElement 36 = .ok (.getfield 57, 3) := by decide +kernel
theorem dX8_groupElement_39 : decode cX8_groupElement 39 = .ok (.iload_n 1, 1) := by decide +kernel
theorem dX8_groupElement_40 : decode cX8_groupElement 40 = .ok (.iload_n 2, 1) := by decide +kernel
theorem dX8_groupElement_41 : decode cX8_groupElement 41 = .ok (.invokevirtual 208, 3) := by decide +kernel
theorem dX8_groupElement_44 : decode cX8_groupElement 44 = .ok (.ireturn, 1) := by decide +kernel
theorem dX8_groupAverage_0 : decode cX8_groupAverage 0 = .ok (.iload_n 1, 1) := by decide +kernel
theorem dX8_groupAverage_1 : decode cX8_groupAverage 1 = .ok (.bipush 6, 2) := by decide +kernel
theorem dX8_groupAverage_3 : decode cX8_groupAverage 3 = .ok (.invokestatic 171, 3) := by decide +kernel
theorem dX8_groupAverage_6 : decode cX8_groupAverage 6 = .ok (.aload_n 0, 1) := by decide +kernel
theorem dX8_groupAverage_7 : decode cX8_groupAverage 7 = .ok (.iload_n 1, 1) := by decide +kernel
theorem dX8_groupAverage_8 : decode cX8_groupAverage 8 = .ok (.invokevirtual 204, 3) := by decide +kernel
theorem dX8_groupAverage_11 : decode cX8_groupAverage 11 = .ok (.aload_n 0, 1) := by decide +kernel
theorem dX8_groupAverage_12 : decode cX8_groupAverage 12 = .ok (.getfield 57, 3) := by decide +kernel
theorem dX8_groupAverage_15 : decode cX8_groupAverage 15 = .ok (.invokevirtual 192, 3) := by decide +kernel
theorem dX8_groupAverage_18 : decode cX8_groupAverage 18 = .ok (.iload_n 1, 1) := by decide +kernel
theorem dX8_groupAverage_19 : decode cX8_groupAverage 19 = .ok (.invokevirtual 196, 3) := by decide +kernel
theorem dX8_groupAverage_22 : decode cX8_groupAverage 22 = .ok (.i2d, 1) := by decide +kernel
theorem dX8_groupAverage_23 : decode cX8_groupAverage 23 = .ok (.dstore_n 2, 1) := by decide +kernel
theorem dX8_groupAverage_24 : decode cX8_groupAverage 24 = .ok (.dload_n 2, 1) := by decide +kernel
theorem dX8_groupAverage_25 : decode cX8_groupAverage 25 = .ok (.dconst 0, 1) := by decide +kernel
theorem dX8_groupAverage_26 : decode cX8_groupAverage 26 = .ok (.dcmp .l, 1) := by decide +kernel
theorem dX8_groupAverage_27 : decode cX8_groupAverage 27 = .ok (.ifCond .le 20, 3) := by decide +kernel
theorem dX8_groupAverage_30 : decode cX8_groupAverage 30 = .ok (.aload_n 0, 1) := by decide +kernel
theorem dX8_groupAverage_31 : decode cX8_groupAverage 31 = .ok (.getfield 57, 3) := by decide +kernel
theorem dX8_groupAverage_34 : decode cX8_groupAverage 34 = .ok (.invokevirtual 192, 3) := by decide +kernel
theorem dX8_groupAverage_37 : decode cX8_groupAverage 37 = .ok (.iload_n 1, 1) := by decide +kernel
theorem dX8_groupAverage_38 : decode cX8_groupAverage 38 = .ok (.invokevirtual 201, 3) := by decide +kernel
theorem dX8_groupAverage_41 : decode cX8_groupAverage 41 = .ok (.i2d, 1) := by decide +kernel
theorem dX8_groupAverage_42 : decode cX8_groupAverage 42 = .ok (.dload_n 2, 1) := by decide +kernel
theorem dX8_groupAverage_43 : decode cX8_groupAverage 43 = .ok (.ddiv, 1) := by decide +kernel
theorem dX8_groupAverage_44 : decode cX8_groupAverage 44 = .ok (.goto 4, 3) := by decide +kernel
theorem dX8_groupAverage_47 : decode cX8_groupAverage 47 = .ok (.dconst 0, 1) := by decide +kernel
theorem dX8_groupAverage_48 : decode cX8_groupAverage 48 = .ok (.dreturn, 1) := by decide +kernel
theorem dX8_qualifiedGroups_0 : decode cX8_qualifiedGroups 0 = .ok (.iconst 0, 1) := by decide +kernel
theorem dX8_qualifiedGroups_1 : decode cX8_qualifiedGroups 1 = .ok (.istore_n 2, 1) := by decide +kernel
theorem dX8_qualifiedGroups_2 : decode cX8_qualifiedGroups 2 = .ok (.iconst 0, 1) := by decide +kernel
theorem dX8_qualifiedGroups_3 : decode cX8_qualifiedGroups 3 = .ok (.istore_n 3, 1) := by decide +kernel
theorem dX8_qualifiedGroups_4 : decode cX8_qualifiedGroups 4 = .ok (.iload_n 3, 1) := by decide +kernel
theorem dX8_qualifiedGroups_5 : decode cX8_qualifiedGroups 5 = .ok (.bipush 6, 2) := by decide +kernel
theorem dX8_qualifiedGroups_7 : decode cX8_qualifiedGroups 7 = .ok (.if_icmp .ge 30, 3) := by decide +kernel
theorem dX8_qualifiedGroups_10 : decode cX8_qualifiedGroups 10 = .ok (.aload_n 0, 1) := by decide +kernel
theorem dX8_qualifiedGroups_11 : decode cX8_qualifiedGroups 11 = .ok (.getfield 57, 3) := by decide +kernel
theorem dX8_qualifiedGroups_14 : decode cX8_qualifiedGroups 14 = .ok (.invokevirtual 192, 3) := by decide +kernel
theorem dX8_qualifiedGroups_17 : decode cX8_qualifiedGroups 17 = .ok (.iload_n 3, 1) := by decide +kernel
theorem dX8_qualifiedGroups_18 : decode cX8_qualifiedGroups 18 = .ok (.iload_n 1, 1) := by decide +kernel
theorem dX8_qualifiedGroups_19 : decode cX8_qualifiedGroups 19 = .ok (.invokevirtual 219, 3) := by decide +kernel
theorem dX8_qualifiedGroups_22 : decode cX8_qualifiedGroups 22 = .ok (.ifCond .eq 9, 3) := by decide +kernel
theorem dX8_qualifiedGroups_25 : decode cX8_qualifiedGroups 25 = .ok (.iload_n 2, 1) := by decide +kernel
theorem dX8_qualifiedGroups_26 : decode cX8_qualifiedGroups 26 = .ok (.iconst 1, 1) := by decide +kernel
theorem dX8_qualifiedGroups_27 : decode cX8_qualifiedGroups 27 = .ok (.iload_n 3, 1) := by decide +kernel
theorem dX8_qualifiedGroups_28 : decode cX8_qualifiedGroups 28 = .ok (.ishl, 1) := by decide +kernel
theorem dX8_qualifiedGroups_29 : decode cX8_qualifiedGroups 29 = .ok (.ior, 1) := by decide +kernel
theorem dX8_qualifiedGroups_30 : decode cX8_qualifiedGroups 30 = .ok (.istore_n 2, 1) := by decide +kernel
theorem dX8_qualifiedGroups_31 : decode cX8_qualifiedGroups 31 = .ok (.iinc 3 1, 3) := by decide +kernel
theorem dX8_qualifiedGroups_34 : decode cX8_qualifiedGroups 34 = .ok (.goto (-30), 3) := by decide +kernel
theorem dX8_qualifiedGroups_37 : decode cX8_qualifiedGroups 37 = .ok (.iload_n 2, 1) := by decide +kernel
theorem dX8_qualifiedGroups_38 : decode cX8_qualifiedGroups 38 = .ok (.ireturn, 1) := by decide +kernel
theorem dX8_rankedGroup_0 : decode cX8_rankedGroup 0 = .ok (.aload_n 0, 1) := by decide +kernel
theorem dX8_rankedGroup_1 : decode cX8_rankedGroup 1 = .ok (.getfield 57, 3) := by decide +kernel
theorem dX8_rankedGroup_4 : decode cX8_rankedGroup 4 = .ok (.invokevirtual 192, 3) := by decide +kernel
theorem dX8_rankedGroup_7 : decode cX8_rankedGroup 7 = .ok (.iload_n 1, 1) := by decide +kernel
theorem dX8_rankedGroup_8 : decode cX8_rankedGroup 8 = .ok (.invokevirtual 223, 3) := by decide +kernel
theorem dX8_rankedGroup_11 : decode cX8_rankedGroup 11 = .ok (.istore_n 2, 1) := by decide +kernel
theorem dX8_rankedGroup_12 : decode cX8_rankedGroup 12 = .ok (.iload_n 2, 1) := by decide +kernel
theorem dX8_rankedGroup_13 : decode cX8_rankedGroup 13 = .ok (.ifCond .ge 13, 3) := by decide +kernel
theorem dX8_rankedGroup_16 : decode cX8_rankedGroup 16 = .ok (.new 226, 3) := by decide +kernel
theorem dX8_rankedGroup_19 : decode cX8_rankedGroup 19 = .ok (.dup, 1) := by decide +kernel
theorem dX8_rankedGroup_20 : decode cX8_rankedGroup 20 = .ok (.ldc 228, 2) := by decide +kernel
theorem dX8_rankedGroup_22 : decode cX8_rankedGroup 22 = .ok (.invokespecial 230, 3) := by decide +kernel
theorem dX8_rankedGroup_25 : decode cX8_rankedGroup 25 = .ok (.athrow, 1) := by decide +kernel
theorem dX8_rankedGroup_26 : decode cX8_rankedGroup 26 = .ok (.iload_n 2, 1) := by decide +kernel
theorem dX8_rankedGroup_27 : decode cX8_rankedGroup 27 = .ok (.ireturn, 1) := by decide +kernel
theorem dX8_changeCount_0 : decode cX8_changeCount 0 = .ok (.aload_n 0, 1) := by decide +kernel
theorem dX8_changeCount_1 : decode cX8_changeCount 1 = .ok (.getfield 57, 3) := by decide +kernel
theorem dX8_changeCount_4 : decode cX8_changeCount 4 = .ok (.invokevirtual 231, 3) := by decide +kernel
theorem dX8_changeCount_7 : decode cX8_changeCount 7 = .ok (.invokevirtual 154, 3) := by decide +kernel
theorem dX8_changeCount_10 : decode cX8_changeCount 10 = .ok (.ireturn, 1) := by decide +kernel
theorem dX8_changeRow_0 : decode cX8_changeRow 0 = .ok (.iload_n 1, 1) := by decide +kernel
theorem dX8_changeRow_1 : decode cX8_changeRow 1 = .ok (.aload_n 0, 1) := by decide +kernel
theorem dX8_changeRow_2 : decode cX8_changeRow 2 = .ok (.getfield 57, 3) := by decide +kernel
theorem dX8_changeRow_5 : decode cX8_changeRow 5 = .ok (.invokevirtual 231, 3) := by decide +kernel
theorem dX8_changeRow_8 : decode cX8_changeRow 8 = .ok (.invokevirtual 154, 3) := by decide +kernel
theorem dX8_changeRow_11 : decode cX8_changeRow 11 = .ok (.invokestatic 171, 3) := by decide +kernel
theorem dX8_changeRow_14 : decode cX8_changeRow 14 = .ok (.iload_n 2, 1) := by decide +kernel
theorem dX8_changeRow_15 : decode cX8_changeRow 15 = .ok (.iconst 4, 1) := by decide +kernel
theorem dX8_changeRow_16 : decode cX8_changeRow 16 = .ok (.invokestatic 171, 3) := by decide +kernel
theorem dX8_changeRow_19 : decode cX8_changeRow 19 = .ok (.aload_n 0, 1) := by decide +kernel
theorem dX8_changeRow_20 : decode cX8_changeRow 20 = .ok (.getfield 57, 3) := by decide +kernel
theorem dX8_changeRow_23 : decode cX8_changeRow 23 = .ok (.invokevirtual 231, 3) := by decide +kernel
theorem dX8_changeRow_26 : decode cX8_changeRow 26 = .ok (.iload_n 1, 1) := by decide +kernel
theorem dX8_changeRow_27 : decode cX8_changeRow 27 = .ok (.iload_n 2, 1) := by decide +kernel
theorem dX8_changeRow_28 : decode cX8_changeRow 28 = .ok (.invokestatic 174, 3) := by decide +kernel
theorem dX8_changeRow_31 : decode cX8_changeRow 31 = .ok (.ireturn, 1) := by decide +kernel
theorem dX8_watch_0 : decode cX8_watch 0 = .ok (.iload_n 1, 1) := by decide +kernel
theorem dX8_watch_1 : decode cX8_watch 1 = .ok (.bipush 6, 2) := by decide +kernel
theorem dX8_watch_3 : decode cX8_watch 3 = .ok (.invokestatic 171, 3) := by decide +kernel
theorem dX8_watch_6 : decode cX8_watch 6 = .ok (.aload_n 0, 1) := by decide +kernel
theorem dX8_watch_7 : decode cX8_watch 7 = .ok (.getfield 50, 3) := by decide +kernel
theorem dX8_watch_10 : decode cX8_watch 10 = .ok (.invokevirtual 234, 3) := by decide +kernel
theorem dX8_watch_13 : decode cX8_watch 13 = .ok (.bipush 6, 2) := by decide +kernel
theorem dX8_watch_15 : decode cX8_watch 15 = .ok (.if_icmp .lt 13, 3) := by decide +kernel
theorem dX8_watch_18 : decode cX8_watch 18 = .ok (.new 130, 3) := by decide +kernel
theorem dX8_watch_21 : decode cX8_watch 21 = .ok (.dup, 1) := by decide +kernel
theorem dX8_watch_22 : decode cX8_watch 22 = .ok (.ldc 235, 2) := by decide +kernel
theorem dX8_watch_24 : decode cX8_watch 24 = .ok (.invokespecial 134, 3) := by decide +kernel
theorem dX8_watch_27 : decode cX8_watch 27 = .ok (.athrow, 1) := by decide +kernel
theorem dX8_watch_28 : decode cX8_watch 28 = .ok (.aload_n 0, 1) := by decide +kernel
theorem dX8_watch_29 : decode cX8_watch 29 = .ok (.getfield 50, 3) := by decide +kernel
theorem dX8_watch_32 : decode cX8_watch 32 = .ok (.iload_n 1, 1) := by decide +kernel
theorem dX8_watch_33 : decode cX8_watch 33 = .ok (.iload_n 2, 1) := by decide +kernel
theorem dX8_watch_34 : decode cX8_watch 34 = .ok (.invokevirtual 237, 3) := by decide +kernel
theorem dX8_watch_37 : decode cX8_watch 37 = .ok (.aload_n 0, 1) := by decide +kernel
theorem dX8_watch_38 : decode cX8_watch 38 = .ok (.getfield 50, 3) := by decide +kernel
theorem dX8_watch_41 : decode cX8_watch 41 = .ok (.invokevirtual 234, 3) := by decide +kernel
theorem dX8_watch_44 : decode cX8_watch 44 = .ok (.iconst 1, 1) := by decide +kernel
theorem dX8_watch_45 : decode cX8_watch 45 = .ok (.isub, 1) := by decide +kernel
theorem dX8_watch_46 : decode cX8_watch 46 = .ok (.ireturn, 1) := by decide +kernel
theorem dX8_isRaised_0 : decode cX8_isRaised 0 = .ok (.iload_n 1, 1) := by decide +kernel
theorem dX8_isRaised_1 : decode cX8_isRaised 1 = .ok (.aload_n 0, 1) := by decide +kernel
theorem dX8_isRaised_2 : decode cX8_isRaised 2 = .ok (.getfield 50, 3) := by decide +kernel
theorem dX8_isRaised_5 : decode cX8_isRaised 5 = .ok (.invokevirtual 234, 3) := by decide +kernel
theorem dX8_isRaised_8 : decode cX8_isRaised 8 = .ok (.invokestatic 171, 3) := by decide +kernel
theorem dX8_isRaised_11 : decode cX8_isRaised 11 = .ok (.aload_n 0, 1) := by decide +kernel
theorem dX8_isRaised_12 : decode cX8_isRaised 12 = .ok (.getfield 50, 3) := by decide +kernel
theorem dX8_isRaised_15 : decode cX8_isRaised 15 = .ok (.iload_n 1, 1) := by decide +kernel
theorem dX8_isRaised_16 : decode cX8_isRaised 16 = .ok (.aload_n 0, 1) := by decide +kernel
theorem dX8_isRaised_17 : decode cX8_isRaised 17 = .ok (.getfield 57, 3) := by decide +kernel
theorem dX8_isRaised_20 : decode cX8_isRaised 20 = .ok (.invokevirtual 192, 3) := by decide +kernel
theorem dX8_isRaised_23 : decode cX8_isRaised 23 = .ok (.invokevirtual 240, 3) := by decide +kernel
theorem dX8_isRaised_26 : decode cX8_isRaised 26 = .ok (.ireturn, 1) := by decide +kernel
theorem dX8_changedWatches_0 : decode cX8_changedWatches 0 = .ok (.iconst 0, 1) := by decide +kernel
theorem dX8_changedWatches_1 : decode cX8_changedWatches 1 = .ok (.istore_n 1, 1) := by decide +kernel
theorem dX8_changedWatches_2 : decode cX8_changedWatches 2 = .ok (.iconst 0, 1) := by decide +kernel
theorem dX8_changedWatches_3 : decode cX8_changedWatches 3 = .ok (.istore_n 2, 1) := by decide +kernel
theorem dX8_changedWatches_4 : decode cX8_changedWatches 4 = .ok (.iload_n 2, 1) := by decide +kernel
theorem dX8_changedWatches_5 : decode cX8_changedWatches 5 = .ok (.aload_n 0, 1) := by decide +kernel
theorem dX8_changedWatches_6 : decode cX8_changedWatches 6 = .ok (.getfield 50, 3) := by decide +kernel
theorem dX8_changedWatches_9 : decode cX8_changedWatches 9 = .ok (.invokevirtual 234, 3) := by decide +kernel
theorem dX8_changedWatches_12 : decode cX8_changedWatches 12 = .ok (.if_icmp .ge 54, 3) := by decide +kernel
theorem dX8_changedWatches_15 : decode cX8_changedWatches 15 = .ok (.aload_n 0, 1) := by decide +kernel
theorem dX8_changedWatches_16 : decode cX8_changedWatches 16 = .ok (.getfield 50, 3) := by decide +kernel
theorem dX8_changedWatches_19 : decode cX8_changedWatches 19 = .ok (.iload_n 2, 1) := by decide +kernel
theorem dX8_changedWatches_20 : decode cX8_changedWatches 20 = .ok (.aload_n 0, 1) := by decide +kernel
theorem dX8_changedWatches_21 : decode cX8_changedWatches 21 = .ok (.getfield 57, 3) := by decide +kernel
theorem dX8_changedWatches_24 : decode cX8_changedWatches 24 = .ok (.invokevirtual 192, 3) := by decide +kernel
theorem dX8_changedWatches_27 : decode cX8_changedWatches 27 = .ok (.invokevirtual 240, 3) := by decide +kernel
theorem dX8_changedWatches_30 : decode cX8_changedWatches 30 = .ok (.istore_n 3, 1) := by decide +kernel
theorem dX8_changedWatches_31 : decode cX8_changedWatches 31 = .ok (.aload_n 0, 1) := by decide +kernel
theorem dX8_changedWatches_32 : decode cX8_changedWatches 32 = .ok (.getfield 50, 3) := by decide +kernel
theorem dX8_changedWatches_35 : decode cX8_changedWatches 35 = .ok (.iload_n 2, 1) := by decide +kernel
theorem dX8_changedWatches_36 : decode cX8_changedWatches 36 = .ok (.aload_n 0, 1) := by decide +kernel
theorem dX8_changedWatches_37 : decode cX8_changedWatches 37 = .ok (.getfield 57, 3) := by decide +kernel
theorem dX8_changedWatches_40 : decode cX8_changedWatches 40 = .ok (.invokevirtual 244, 3) := by decide +kernel
theorem dX8_changedWatches_43 : decode cX8_changedWatches 43 = .ok (.invokevirtual 240, 3) := by decide +kernel
theorem dX8_changedWatches_46 : decode cX8_changedWatches 46 = .ok (.istore 4, 2) := by decide +kernel
theorem dX8_changedWatches_48 : decode cX8_changedWatches 48 = .ok (.iload_n 3, 1) := by decide +kernel
theorem dX8_changedWatches_49 : decode cX8_changedWatches 49 = .ok (.iload 4, 2) := by decide +kernel
theorem dX8_changedWatches_51 : decode cX8_changedWatches 51 = .ok (.if_icmp .eq 9, 3) := by decide +kernel
theorem dX8_changedWatches_54 : decode cX8_changedWatches 54 = .ok (.iload_n 1, 1) := by decide +kernel
theorem dX8_changedWatches_55 : decode cX8_changedWatches 55 = .ok (.iconst 1, 1) := by decide +kernel
theorem dX8_changedWatches_56 : decode cX8_changedWatches 56 = .ok (.iload_n 2, 1) := by decide +kernel
theorem dX8_changedWatches_57 : decode cX8_changedWatches 57 = .ok (.ishl, 1) := by decide +kernel
theorem dX8_changedWatches_58 : decode cX8_changedWatches 58 = .ok (.ior, 1) := by decide +kernel
theorem dX8_changedWatches_59 : decode cX8_changedWatches 59 = .ok (.istore_n 1, 1) := by decide +kernel
theorem dX8_changedWatches_60 : decode cX8_changedWatches 60 = .ok (.iinc 2 1, 3) := by decide +kernel
theorem dX8_changedWatches_63 : decode cX8_changedWatches 63 = .ok (.goto (-59), 3) := by decide +kernel
theorem dX8_changedWatches_66 : decode cX8_changedWatches 66 = .ok (.iload_n 1, 1) := by decide +kernel
theorem dX8_changedWatches_67 : decode cX8_changedWatches 67 = .ok (.ireturn, 1) := by decide +kernel
theorem dX8_clearWatches_0 : decode cX8_clearWatches 0 = .ok (.aload_n 0, 1) := by decide +kernel
theorem dX8_clearWatches_1 : decode cX8_clearWatches 1 = .ok (.getfield 50, 3) := by decide +kernel
theorem dX8_clearWatches_4 : decode cX8_clearWatches 4 = .ok (.invokevirtual 234, 3) := by decide +kernel
theorem dX8_clearWatches_7 : decode cX8_clearWatches 7 = .ok (.istore_n 1, 1) := by decide +kernel
theorem dX8_clearWatches_8 : decode cX8_clearWatches 8 = .ok (.aload_n 0, 1) := by decide +kernel
theorem dX8_clearWatches_9 : decode cX8_clearWatches 9 = .ok (.getfield 50, 3) := by decide +kernel
theorem dX8_clearWatches_12 : decode cX8_clearWatches 12 = .ok (.invokevirtual 247, 3) := by decide +kernel
theorem dX8_clearWatches_15 : decode cX8_clearWatches 15 = .ok (.iload_n 1, 1) := by decide +kernel
theorem dX8_clearWatches_16 : decode cX8_clearWatches 16 = .ok (.ireturn, 1) := by decide +kernel
theorem dX8_appendCharacter_0 : decode cX8_appendCharacter 0 = .ok (.iload_n 1, 1) := by decide +kernel
theorem dX8_appendCharacter_1 : decode cX8_appendCharacter 1 = .ok (.bipush 33, 2) := by decide +kernel
theorem dX8_appendCharacter_3 : decode cX8_appendCharacter 3 = .ok (.bipush 126, 2) := by decide +kernel
theorem dX8_appendCharacter_5 : decode cX8_appendCharacter 5 = .ok (.invokestatic 164, 3) := by decide +kernel
theorem dX8_appendCharacter_8 : decode cX8_appendCharacter 8 = .ok (.ifCond .ne 13, 3) := by decide +kernel
theorem dX8_appendCharacter_11 : decode cX8_appendCharacter 11 = .ok (.new 250, 3) := by decide +kernel
theorem dX8_appendCharacter_14 : decode cX8_appendCharacter 14 = .ok (.dup, 1) := by decide +kernel
theorem dX8_appendCharacter_15 : decode cX8_appendCharacter 15 = .ok (.ldc 252, 2) := by decide +kernel
theorem dX8_appendCharacter_17 : decode cX8_appendCharacter 17 = .ok (.invokespecial 254, 3) := by decide +kernel
theorem dX8_appendCharacter_20 : decode cX8_appendCharacter 20 = .ok (.athrow, 1) := by decide +kernel
theorem dX8_appendCharacter_21 : decode cX8_appendCharacter 21 = .ok (.aload_n 0, 1) := by decide +kernel
theorem dX8_appendCharacter_22 : decode cX8_appendCharacter 22 = .ok (.getfield 40, 3) := by decide +kernel
theorem dX8_appendCharacter_25 : decode cX8_appendCharacter 25 = .ok (.invokevirtual 255, 3) := by decide +kernel
theorem dX8_appendCharacter_28 : decode cX8_appendCharacter 28 = .ok (.bipush 40, 2) := by decide +kernel
theorem dX8_appendCharacter_30 : decode cX8_appendCharacter 30 = .ok (.if_icmp .lt 14, 3) := by decide +kernel
theorem dX8_appendCharacter_33 : decode cX8_appendCharacter 33 = .ok (.new 130, 3) := by decide +kernel
theorem dX8_appendCharacter_36 : decode cX8_appendCharacter 36 = .ok (.dup, 1) := by decide +kernel
theorem dX8_appendCharacter_37 : decode cX8_appendCharacter 37 = .ok (.ldc_w 258, 3) := by decide +kernel
theorem dX8_appendCharacter_40 : decode cX8_appendCharacter 40 = .ok (.invokespecial 134, 3) := by decide +kernel
theorem dX8_appendCharacter_43 : decode cX8_appendCharacter 43 = .ok (.athrow, 1) := by decide +kernel
theorem dX8_appendCharacter_44 : decode cX8_appendCharacter 44 = .ok (.aload_n 0, 1) := by decide +kernel
theorem dX8_appendCharacter_45 : decode cX8_appendCharacter 45 = .ok (.getfield 40, 3) := by decide +kernel
theorem dX8_appendCharacter_48 : decode cX8_appendCharacter 48 = .ok (.iload_n 1, 1) := by decide +kernel
theorem dX8_appendCharacter_49 : decode cX8_appendCharacter 49 = .ok (.i2c, 1) := by decide +kernel
theorem dX8_appendCharacter_50 : decode cX8_appendCharacter 50 = .ok (.invokevirtual 260, 3) := by decide +kernel
theorem dX8_appendCharacter_53 : decode cX8_appendCharacter 53 = .ok (.aload_n 0, 1) := by decide +kernel
theorem dX8_appendCharacter_54 : decode cX8_appendCharacter 54 = .ok (.getfield 40, 3) := by decide +kernel
theorem dX8_appendCharacter_57 : decode cX8_appendCharacter 57 = .ok (.invokevirtual 255, 3) := by decide +kernel
theorem dX8_appendCharacter_60 : decode cX8_appendCharacter 60 = .ok (.ireturn, 1) := by decide +kernel
theorem dX8_setFilter_0 : decode cX8_setFilter 0 = .ok (.aload_n 0, 1) := by decide +kernel
theorem dX8_setFilter_1 : decode cX8_setFilter 1 = .ok (.aload_n 0, 1) := by decide +kernel
theorem dX8_setFilter_2 : decode cX8_setFilter 2 = .ok (.getfield 40, 3) := by decide +kernel
theorem dX8_setFilter_5 : decode cX8_setFilter 5 = .ok (.invokevirtual 263, 3) := by decide +kernel
theorem dX8_setFilter_8 : decode cX8_setFilter 8 = .ok (.putfield 44, 3) := by decide +kernel
theorem dX8_setFilter_11 : decode cX8_setFilter 11 = .ok (.aload_n 0, 1) := by decide +kernel
theorem dX8_setFilter_12 : decode cX8_setFilter 12 = .ok (.getfield 40, 3) := by decide +kernel
theorem dX8_setFilter_15 : decode cX8_setFilter 15 = .ok (.invokevirtual 266, 3) := by decide +kernel
theorem dX8_setFilter_18 : decode cX8_setFilter 18 = .ok (.aload_n 0, 1) := by decide +kernel
theorem dX8_setFilter_19 : decode cX8_setFilter 19 = .ok (.getfield 44, 3) := by decide +kernel
theorem dX8_setFilter_22 : decode cX8_setFilter 22 = .ok (.iconst (-1), 1) := by decide +kernel
theorem dX8_setFilter_23 : decode cX8_setFilter 23 = .ok (.if_icmp .eq 14, 3) := by decide +kernel
theorem dX8_setFilter_26 : decode cX8_setFilter 26 = .ok (.new 250, 3) := by decide +kernel
theorem dX8_setFilter_29 : decode cX8_setFilter 29 = .ok (.dup, 1) := by decide +kernel
theorem dX8_setFilter_30 : decode cX8_setFilter 30 = .ok (.ldc_w 267, 3) := by decide +kernel
theorem dX8_setFilter_33 : decode cX8_setFilter 33 = .ok (.invokespecial 254, 3) := by decide +kernel
theorem dX8_setFilter_36 : decode cX8_setFilter 36 = .ok (.athrow, 1) := by decide +kernel
theorem dX8_setFilter_37 : decode cX8_setFilter 37 = .ok (.aload_n 0, 1) := by decide +kernel
theorem dX8_setFilter_38 : decode cX8_setFilter 38 = .ok (.getfield 33, 3) := by decide +kernel
theorem dX8_setFilter_41 : decode cX8_setFilter 41 = .ok (.aload_n 0, 1) := by decide +kernel
theorem dX8_setFilter_42 : decode cX8_setFilter 42 = .ok (.getfield 40, 3) := by decide +kernel
theorem dX8_setFilter_45 : decode cX8_setFilter 45 = .ok (.invokevirtual 269, 3) := by decide +kernel
theorem dX8_setFilter_48 : decode cX8_setFilter 48 = .ok (.invokevirtual 273, 3) := by decide +kernel
theorem dX8_setFilter_51 : decode cX8_setFilter 51 = .ok (.aload_n 0, 1) := by decide +kernel
theorem dX8_setFilter_52 : decode cX8_setFilter 52 = .ok (.getfield 57, 3) := by decide +kernel
theorem dX8_setFilter_55 : decode cX8_setFilter 55 = .ok (.aload_n 0, 1) := by decide +kernel
theorem dX8_setFilter_56 : decode cX8_setFilter 56 = .ok (.getfield 12, 3) := by decide +kernel
theorem dX8_setFilter_59 : decode cX8_setFilter 59 = .ok (.aload_n 0, 1) := by decide +kernel
theorem dX8_setFilter_60 : decode cX8_setFilter 60 = .ok (.getfield 33, 3) := by decide +kernel
theorem dX8_setFilter_63 : decode cX8_setFilter 63 = .ok (.invokevirtual 276, 3) := by decide +kernel
theorem dX8_setFilter_66 : decode cX8_setFilter 66 = .ok (.aload_n 0, 1) := by decide +kernel
theorem dX8_setFilter_67 : decode cX8_setFilter 67 = .ok (.getfield 57, 3) := by decide +kernel
theorem dX8_setFilter_70 : decode cX8_setFilter 70 = .ok (.invokevirtual 150, 3) := by decide +kernel
theorem dX8_setFilter_73 : decode cX8_setFilter 73 = .ok (.invokevirtual 146, 3) := by decide +kernel
theorem dX8_setFilter_76 : decode cX8_setFilter 76 = .ok (.ireturn, 1) := by decide +kernel
theorem dX8_faultPosition_0 : decode cX8_faultPosition 0 = .ok (.aload_n 0, 1) := by decide +kernel
theorem dX8_faultPosition_1 : decode cX8_faultPosition 1 = .ok (.getfield 44, 3) := by decide +kernel
theorem dX8_faultPosition_4 : decode cX8_faultPosition 4 = .ok (.ireturn, 1) := by decide +kernel
theorem dX8_clearFilter_0 : decode cX8_clearFilter 0 = .ok (.aload_n 0, 1) := by decide +kernel
theorem dX8_clearFilter_1 : decode cX8_clearFilter 1 = .ok (.getfield 33, 3) := by decide +kernel
theorem dX8_clearFilter_4 : decode cX8_clearFilter 4 = .ok (.invokevirtual 280, 3) := by decide +kernel
theorem dX8_clearFilter_7 : decode cX8_clearFilter 7 = .ok (.aload_n 0, 1) := by decide +kernel
theorem dX8_clearFilter_8 : decode cX8_clearFilter 8 = .ok (.getfield 57, 3) := by decide +kernel
theorem dX8_clearFilter_11 : decode cX8_clearFilter 11 = .ok (.aload_n 0, 1) := by decide +kernel
theorem dX8_clearFilter_12 : decode cX8_clearFilter 12 = .ok (.getfield 12, 3) := by decide +kernel
theorem dX8_clearFilter_15 : decode cX8_clearFilter 15 = .ok (.aload_n 0, 1) := by decide +kernel
theorem dX8_clearFilter_16 : decode cX8_clearFilter 16 = .ok (.getfield 33, 3) := by decide +kernel
theorem dX8_clearFilter_19 : decode cX8_clearFilter 19 = .ok (.invokevirtual 276, 3) := by decide +kernel
theorem dX8_clearFilter_22 : decode cX8_clearFilter 22 = .ok (.return_, 1) := by decide +kernel
theorem dX8_accepts_0 : decode cX8_accepts 0 = .ok (.iload_n 1, 1) := by decide +kernel
theorem dX8_accepts_1 : decode cX8_accepts 1 = .ok (.iload_n 2, 1) := by decide +kernel
theorem dX8_accepts_2 : decode cX8_accepts 2 = .ok (.iload_n 3, 1) := by decide +kernel
theorem dX8_accepts_3 : decode cX8_accepts 3 = .ok (.invokestatic 74, 3) := by decide +kernel
theorem dX8_accepts_6 : decode cX8_accepts 6 = .ok (.iload_n 1, 1) := by decide +kernel
theorem dX8_accepts_7 : decode cX8_accepts 7 = .ok (.iload 4, 2) := by decide +kernel
theorem dX8_accepts_9 : decode cX8_accepts 9 = .ok (.invokestatic 101, 3) := by decide +kernel
theorem dX8_accepts_12 : decode cX8_accepts 12 = .ok (.aload_n 0, 1) := by decide +kernel
theorem dX8_accepts_13 : decode cX8_accepts 13 = .ok (.getfield 33, 3) := by decide +kernel
theorem dX8_accepts_16 : decode cX8_accepts 16 = .ok (.iload_n 1, 1) := by decide +kernel
theorem dX8_accepts_17 : decode cX8_accepts 17 = .ok (.iload_n 2, 1) := by decide +kernel
theorem dX8_accepts_18 : decode cX8_accepts 18 = .ok (.iload_n 3, 1) := by decide +kernel
theorem dX8_accepts_19 : decode cX8_accepts 19 = .ok (.iload 4, 2) := by decide +kernel
theorem dX8_accepts_21 : decode cX8_accepts 21 = .ok (.invokevirtual 281, 3) := by decide +kernel
theorem dX8_accepts_24 : decode cX8_accepts 24 = .ok (.ireturn, 1) := by decide +kernel
theorem dX8_save_0 : decode cX8_save 0 = .ok (.aload_n 0, 1) := by decide +kernel
theorem dX8_save_1 : decode cX8_save 1 = .ok (.getfield 65, 3) := by decide +kernel
theorem dX8_save_4 : decode cX8_save 4 = .ok (.aload_n 0, 1) := by decide +kernel
theorem dX8_save_5 : decode cX8_save 5 = .ok (.getfield 12, 3) := by decide +kernel
theorem dX8_save_8 : decode cX8_save 8 = .ok (.invokevirtual 119, 3) := by decide +kernel
theorem dX8_save_11 : decode cX8_save 11 = .ok (.aload_n 0, 1) := by decide +kernel
theorem dX8_save_12 : decode cX8_save 12 = .ok (.getfield 68, 3) := by decide +kernel
theorem dX8_save_15 : decode cX8_save 15 = .ok (.aload_n 0, 1) := by decide +kernel
theorem dX8_save_16 : decode cX8_save 16 = .ok (.getfield 33, 3) := by decide +kernel
theorem dX8_save_19 : decode cX8_save 19 = .ok (.invokevirtual 273, 3) := by decide +kernel
theorem dX8_save_22 : decode cX8_save 22 = .ok (.aload_n 0, 1) := by decide +kernel
theorem dX8_save_23 : decode cX8_save 23 = .ok (.getfield 71, 3) := by decide +kernel
theorem dX8_save_26 : decode cX8_save 26 = .ok (.aload_n 0, 1) := by decide +kernel
theorem dX8_save_27 : decode cX8_save 27 = .ok (.getfield 50, 3) := by decide +kernel
theorem dX8_save_30 : decode cX8_save 30 = .ok (.invokevirtual 285, 3) := by decide +kernel
theorem dX8_save_33 : decode cX8_save 33 = .ok (.aload_n 0, 1) := by decide +kernel
theorem dX8_save_34 : decode cX8_save 34 = .ok (.iconst 1, 1) := by decide +kernel
theorem dX8_save_35 : decode cX8_save 35 = .ok (.putfield 61, 3) := by decide +kernel
theorem dX8_save_38 : decode cX8_save 38 = .ok (.return_, 1) := by decide +kernel
theorem dX8_restore_0 : decode cX8_restore 0 = .ok (.aload_n 0, 1) := by decide +kernel
theorem dX8_restore_1 : decode cX8_restore 1 = .ok (.getfield 61, 3) := by decide +kernel
theorem dX8_restore_4 : decode cX8_restore 4 = .ok (.ifCond .ne 14, 3) := by decide +kernel
theorem dX8_restore_7 : decode cX8_restore 7 = .ok (.new 130, 3) := by decide +kernel
theorem dX8_restore_10 : decode cX8_restore 10 = .ok (.dup, 1) := by decide +kernel
theorem dX8_restore_11 : decode cX8_restore 11 = .ok (.ldc_w 288, 3) := by decide +kernel
theorem dX8_restore_14 : decode cX8_restore 14 = .ok (.invokespecial 134, 3) := by decide +kernel
theorem dX8_restore_17 : decode cX8_restore 17 = .ok (.athrow, 1) := by decide +kernel
theorem dX8_restore_18 : decode cX8_restore 18 = .ok (.aload_n 0, 1) := by decide +kernel
theorem dX8_restore_19 : decode cX8_restore 19 = .ok (.getfield 12, 3) := by decide +kernel
theorem dX8_restore_22 : decode cX8_restore 22 = .ok (.aload_n 0, 1) := by decide +kernel
theorem dX8_restore_23 : decode cX8_restore 23 = .ok (.getfield 65, 3) := by decide +kernel
theorem dX8_restore_26 : decode cX8_restore 26 = .ok (.invokevirtual 119, 3) := by decide +kernel
theorem dX8_restore_29 : decode cX8_restore 29 = .ok (.aload_n 0, 1) := by decide +kernel
theorem dX8_restore_30 : decode cX8_restore 30 = .ok (.getfield 33, 3) := by decide +kernel
theorem dX8_restore_33 : decode cX8_restore 33 = .ok (.aload_n 0, 1) := by decide +kernel
theorem dX8_restore_34 : decode cX8_restore 34 = .ok (.getfield 68, 3) := by decide +kernel
theorem dX8_restore_37 : decode cX8_restore 37 = .ok (.invokevirtual 273, 3) := by decide +kernel
theorem dX8_restore_40 : decode cX8_restore 40 = .ok (.aload_n 0, 1) := by decide +kernel
theorem dX8_restore_41 : decode cX8_restore 41 = .ok (.getfield 50, 3) := by decide +kernel
theorem dX8_restore_44 : decode cX8_restore 44 = .ok (.aload_n 0, 1) := by decide +kernel
theorem dX8_restore_45 : decode cX8_restore 45 = .ok (.getfield 71, 3) := by decide +kernel
theorem dX8_restore_48 : decode cX8_restore 48 = .ok (.invokevirtual 285, 3) := by decide +kernel
theorem dX8_restore_51 : decode cX8_restore 51 = .ok (.aload_n 0, 1) := by decide +kernel
theorem dX8_restore_52 : decode cX8_restore 52 = .ok (.invokevirtual 112, 3) := by decide +kernel
theorem dX8_restore_55 : decode cX8_restore 55 = .ok (.aload_n 0, 1) := by decide +kernel
theorem dX8_restore_56 : decode cX8_restore 56 = .ok (.getfield 26, 3) := by decide +kernel
theorem dX8_restore_59 : decode cX8_restore 59 = .ok (.invokevirtual 290, 3) := by decide +kernel
theorem dX8_restore_62 : decode cX8_restore 62 = .ok (.aload_n 0, 1) := by decide +kernel
theorem dX8_restore_63 : decode cX8_restore 63 = .ok (.getfield 57, 3) := by decide +kernel
theorem dX8_restore_66 : decode cX8_restore 66 = .ok (.aload_n 0, 1) := by decide +kernel
theorem dX8_restore_67 : decode cX8_restore 67 = .ok (.getfield 12, 3) := by decide +kernel
theorem dX8_restore_70 : decode cX8_restore 70 = .ok (.aload_n 0, 1) := by decide +kernel
theorem dX8_restore_71 : decode cX8_restore 71 = .ok (.getfield 33, 3) := by decide +kernel
theorem dX8_restore_74 : decode cX8_restore 74 = .ok (.invokevirtual 276, 3) := by decide +kernel
theorem dX8_restore_77 : decode cX8_restore 77 = .ok (.return_, 1) := by decide +kernel
theorem dX8_planChange_0 : decode cX8_planChange 0 = .ok (.aload_n 1, 1) := by decide +kernel
theorem dX8_planChange_1 : decode cX8_planChange 1 = .ok (.iload_n 2, 1) := by decide +kernel
theorem dX8_planChange_2 : decode cX8_planChange 2 = .ok (.iload_n 3, 1) := by decide +kernel
theorem dX8_planChange_3 : decode cX8_planChange 3 = .ok (.invokevirtual 291, 3) := by decide +kernel
theorem dX8_planChange_6 : decode cX8_planChange 6 = .ok (.aload_n 0, 1) := by decide +kernel
theorem dX8_planChange_7 : decode cX8_planChange 7 = .ok (.dup, 1) := by decide +kernel
theorem dX8_planChange_8 : decode cX8_planChange 8 = .ok (.getfield 19, 3) := by decide +kernel
theorem dX8_planChange_11 : decode cX8_planChange 11 = .ok (.iconst 1, 1) := by decide +kernel
theorem dX8_planChange_12 : decode cX8_planChange 12 = .ok (.iadd, 1) := by decide +kernel
theorem dX8_planChange_13 : decode cX8_planChange 13 = .ok (.putfield 19, 3) := by decide +kernel
theorem dX8_planChange_16 : decode cX8_planChange 16 = .ok (.aload_n 0, 1) := by decide +kernel
theorem dX8_planChange_17 : decode cX8_planChange 17 = .ok (.getfield 19, 3) := by decide +kernel
theorem dX8_planChange_20 : decode cX8_planChange 20 = .ok (.ireturn, 1) := by decide +kernel
theorem dX8_emptyBatch_0 : decode cX8_emptyBatch 0 = .ok (.aload_n 0, 1) := by decide +kernel
theorem dX8_emptyBatch_1 : decode cX8_emptyBatch 1 = .ok (.getfield 16, 3) := by decide +kernel
theorem dX8_emptyBatch_4 : decode cX8_emptyBatch 4 = .ok (.aload_n 0, 1) := by decide +kernel
theorem dX8_emptyBatch_5 : decode cX8_emptyBatch 5 = .ok (.getfield 12, 3) := by decide +kernel
theorem dX8_emptyBatch_8 : decode cX8_emptyBatch 8 = .ok (.invokevirtual 119, 3) := by decide +kernel
theorem dX8_emptyBatch_11 : decode cX8_emptyBatch 11 = .ok (.aload_n 0, 1) := by decide +kernel
theorem dX8_emptyBatch_12 : decode cX8_emptyBatch 12 = .ok (.iconst 0, 1) := by decide +kernel
theorem dX8_emptyBatch_13 : decode cX8_emptyBatch 13 = .ok (.putfield 19, 3) := by decide +kernel
theorem dX8_emptyBatch_16 : decode cX8_emptyBatch 16 = .ok (.return_, 1) := by decide +kernel
theorem dX8_requireRoomInBatch_0 : decode cX8_requireRoomInBatch 0 = .ok (.aload_n 0, 1) := by decide +kernel
theorem dX8_requireRoomInBatch_1 : decode cX8_requireRoomInBatch 1 = .ok (.getfield 19, 3) := by decide +kernel
theorem dX8_requireRoomInBatch_4 : decode cX8_requireRoomInBatch 4 = .ok (.bipush 40, 2) := by decide +kernel
theorem dX8_requireRoomInBatch_6 : decode cX8_requireRoomInBatch 6 = .ok (.if_icmp .lt 14, 3) := by decide +kernel
theorem dX8_requireRoomInBatch_9 : decode cX8_requireRoomInBatch 9 = .ok (.new 130, 3) := by decide +kernel
theorem dX8_requireRoomInBatch_12 : decode cX8_requireRoomInBatch 12 = .ok (.dup, 1) := by decide +kernel
theorem dX8_requireRoomInBatch_13 : decode cX8_requireRoomInBatch 13 = .ok (.ldc_w 294, 3) := by decide +kernel
theorem dX8_requireRoomInBatch_16 : decode cX8_requireRoomInBatch 16 = .ok (.invokespecial 134, 3) := by decide +kernel
theorem dX8_requireRoomInBatch_19 : decode cX8_requireRoomInBatch 19 = .ok (.athrow, 1) := by decide +kernel
theorem dX8_requireRoomInBatch_20 : decode cX8_requireRoomInBatch 20 = .ok (.return_, 1) := by decide +kernel
theorem dX8_requireRowsInGroup_0 : decode cX8_requireRowsInGroup 0 = .ok (.aload_n 0, 1) := by decide +kernel
theorem dX8_requireRowsInGroup_1 : decode cX8_requireRowsInGroup 1 = .ok (.getfield 57, 3) := by decide +kernel
theorem dX8_requireRowsInGroup_4 : decode cX8_requireRowsInGroup 4 = .ok (.invokevirtual 192, 3) := by decide +kernel
theorem dX8_requireRowsInGroup_7 : decode cX8_requireRowsInGroup 7 = .ok (.iload_n 1, 1) := by decide +kernel
theorem dX8_requireRowsInGroup_8 : decode cX8_requireRowsInGroup 8 = .ok (.invokevirtual 196, 3) := by decide +kernel
theorem dX8_requireRowsInGroup_11 : decode cX8_requireRowsInGroup 11 = .ok (.ifCond .gt 14, 3) := by decide +kernel
theorem dX8_requireRowsInGroup_14 : decode cX8_requireRowsInGroup 14 = .ok (.new 214, 3) := by decide +kernel
theorem dX8_requireRowsInGroup_17 : decode cX8_requireRowsInGroup 17 = .ok (.dup, 1) := by decide +kernel
theorem dX8_requireRowsInGroup_18 : decode cX8_requireRowsInGroup 18 = .ok (.ldc_w 296, 3) := by decide +kernel
theorem dX8_requireRowsInGroup_21 : decode cX8_requireRowsInGroup 21 = .ok (.invokespecial 218, 3) := by decide +kernel
theorem dX8_requireRowsInGroup_24 : decode cX8_requireRowsInGroup 24 = .ok (.athrow, 1) := by decide +kernel
theorem dX8_requireRowsInGroup_25 : decode cX8_requireRowsInGroup 25 = .ok (.return_, 1) := by decide +kernel
theorem dX8_requireRoomInTable_0 : decode cX8_requireRoomInTable 0 = .ok (.aload_n 0, 1) := by decide +kernel
theorem dX8_requireRoomInTable_1 : decode cX8_requireRoomInTable 1 = .ok (.invokevirtual 146, 3) := by decide +kernel
theorem dX8_requireRoomInTable_4 : decode cX8_requireRoomInTable 4 = .ok (.bipush 60, 2) := by decide +kernel
theorem dX8_requireRoomInTable_6 : decode cX8_requireRoomInTable 6 = .ok (.if_icmp .lt 14, 3) := by decide +kernel
theorem dX8_requireRoomInTable_9 : decode cX8_requireRoomInTable 9 = .ok (.new 130, 3) := by decide +kernel
theorem dX8_requireRoomInTable_12 : decode cX8_requireRoomInTable 12 = .ok (.dup, 1) := by decide +kernel
theorem dX8_requireRoomInTable_13 : decode cX8_requireRoomInTable 13 = .ok (.ldc_w 298, 3) := by decide +kernel
theorem dX8_requireRoomInTable_16 : decode cX8_requireRoomInTable 16 = .ok (.invokespecial 134, 3) := by decide +kernel
theorem dX8_requireRoomInTable_19 : decode cX8_requireRoomInTable 19 = .ok (.athrow, 1) := by decide +kernel
theorem dX8_requireRoomInTable_20 : decode cX8_requireRoomInTable 20 = .ok (.return_, 1) := by decide +kernel
theorem dX8_requireRowInTable_0 : decode cX8_requireRowInTable 0 = .ok (.aload_n 0, 1) := by decide +kernel
theorem dX8_requireRowInTable_1 : decode cX8_requireRowInTable 1 = .ok (.iload_n 1, 1) := by decide +kernel
theorem dX8_requireRowInTable_2 : decode cX8_requireRowInTable 2 = .ok (.invokevirtual 140, 3) := by decide +kernel
theorem dX8_requireRowInTable_5 : decode cX8_requireRowInTable 5 = .ok (.ifCond .gt 14, 3) := by decide +kernel
theorem dX8_requireRowInTable_8 : decode cX8_requireRowInTable 8 = .ok (.new 214, 3) := by decide +kernel
theorem dX8_requireRowInTable_11 : decode cX8_requireRowInTable 11 = .ok (.dup, 1) := by decide +kernel
theorem dX8_requireRowInTable_12 : decode cX8_requireRowInTable 12 = .ok (.ldc_w 300, 3) := by decide +kernel
theorem dX8_requireRowInTable_15 : decode cX8_requireRowInTable 15 = .ok (.invokespecial 218, 3) := by decide +kernel
theorem dX8_requireRowInTable_18 : decode cX8_requireRowInTable 18 = .ok (.athrow, 1) := by decide +kernel
theorem dX8_requireRowInTable_19 : decode cX8_requireRowInTable 19 = .ok (.return_, 1) := by decide +kernel
theorem dX8_requireLeftRow_0 : decode cX8_requireLeftRow 0 = .ok (.iload_n 0, 1) := by decide +kernel
theorem dX8_requireLeftRow_1 : decode cX8_requireLeftRow 1 = .ok (.invokestatic 157, 3) := by decide +kernel
theorem dX8_requireLeftRow_4 : decode cX8_requireLeftRow 4 = .ok (.ifCond .eq 21, 3) := by decide +kernel
theorem dX8_requireLeftRow_7 : decode cX8_requireLeftRow 7 = .ok (.iload_n 1, 1) := by decide +kernel
theorem dX8_requireLeftRow_8 : decode cX8_requireLeftRow 8 = .ok (.invokestatic 161, 3) := by decide +kernel
theorem dX8_requireLeftRow_11 : decode cX8_requireLeftRow 11 = .ok (.ifCond .eq 14, 3) := by decide +kernel
theorem dX8_requireLeftRow_14 : decode cX8_requireLeftRow 14 = .ok (.iload_n 2, 1) := by decide +kernel
theorem dX8_requireLeftRow_15 : decode cX8_requireLeftRow 15 = .ok (.bipush (-99), 2) := by decide +kernel
theorem dX8_requireLeftRow_17 : decode cX8_requireLeftRow 17 = .ok (.bipush 99, 2) := by decide +kernel
theorem dX8_requireLeftRow_19 : decode cX8_requireLeftRow 19 = .ok (.invokestatic 164, 3) := by decide +kernel
theorem dX8_requireLeftRow_22 : decode cX8_requireLeftRow 22 = .ok (.ifCond .ne 14, 3) := by decide +kernel
theorem dX8_requireLeftRow_25 : decode cX8_requireLeftRow 25 = .ok (.new 250, 3) := by decide +kernel
theorem dX8_requireLeftRow_28 : decode cX8_requireLeftRow 28 = .ok (.dup, 1) := by decide +kernel
theorem dX8_requireLeftRow_29 : decode cX8_requireLeftRow 29 = .ok (.ldc_w 302, 3) := by decide +kernel
theorem dX8_requireLeftRow_32 : decode cX8_requireLeftRow 32 = .ok (.invokespecial 254, 3) := by decide +kernel
theorem dX8_requireLeftRow_35 : decode cX8_requireLeftRow 35 = .ok (.athrow, 1) := by decide +kernel
theorem dX8_requireLeftRow_36 : decode cX8_requireLeftRow 36 = .ok (.return_, 1) := by decide +kernel
theorem dX8_requireRightRow_0 : decode cX8_requireRightRow 0 = .ok (.iload_n 0, 1) := by decide +kernel
theorem dX8_requireRightRow_1 : decode cX8_requireRightRow 1 = .ok (.invokestatic 157, 3) := by decide +kernel
theorem dX8_requireRightRow_4 : decode cX8_requireRightRow 4 = .ok (.ifCond .eq 14, 3) := by decide +kernel
theorem dX8_requireRightRow_7 : decode cX8_requireRightRow 7 = .ok (.iload_n 1, 1) := by decide +kernel
theorem dX8_requireRightRow_8 : decode cX8_requireRightRow 8 = .ok (.bipush (-9), 2) := by decide +kernel
theorem dX8_requireRightRow_10 : decode cX8_requireRightRow 10 = .ok (.bipush 9, 2) := by decide +kernel
theorem dX8_requireRightRow_12 : decode cX8_requireRightRow 12 = .ok (.invokestatic 164, 3) := by decide +kernel
theorem dX8_requireRightRow_15 : decode cX8_requireRightRow 15 = .ok (.ifCond .ne 14, 3) := by decide +kernel
theorem dX8_requireRightRow_18 : decode cX8_requireRightRow 18 = .ok (.new 250, 3) := by decide +kernel
theorem dX8_requireRightRow_21 : decode cX8_requireRightRow 21 = .ok (.dup, 1) := by decide +kernel
theorem dX8_requireRightRow_22 : decode cX8_requireRightRow 22 = .ok (.ldc_w 304, 3) := by decide +kernel
theorem dX8_requireRightRow_25 : decode cX8_requireRightRow 25 = .ok (.invokespecial 254, 3) := by decide +kernel
theorem dX8_requireRightRow_28 : decode cX8_requireRightRow 28 = .ok (.athrow, 1) := by decide +kernel
theorem dX8_requireRightRow_29 : decode cX8_requireRightRow 29 = .ok (.return_, 1) := by decide +kernel
theorem dX8_requireIndex_0 : decode cX8_requireIndex 0 = .ok (.iload_n 0, 1) := by decide +kernel
theorem dX8_requireIndex_1 : decode cX8_requireIndex 1 = .ok (.ifCond .lt 8, 3) := by decide +kernel
theorem dX8_requireIndex_4 : decode cX8_requireIndex 4 = .ok (.iload_n 0, 1) := by decide +kernel
theorem dX8_requireIndex_5 : decode cX8_requireIndex 5 = .ok (.iload_n 1, 1) := by decide +kernel
theorem dX8_requireIndex_6 : decode cX8_requireIndex 6 = .ok (.if_icmp .lt 14, 3) := by decide +kernel
theorem dX8_requireIndex_9 : decode cX8_requireIndex 9 = .ok (.new 226, 3) := by decide +kernel
theorem dX8_requireIndex_12 : decode cX8_requireIndex 12 = .ok (.dup, 1) := by decide +kernel
theorem dX8_requireIndex_13 : decode cX8_requireIndex 13 = .ok (.ldc_w 306, 3) := by decide +kernel
theorem dX8_requireIndex_16 : decode cX8_requireIndex 16 = .ok (.invokespecial 230, 3) := by decide +kernel
theorem dX8_requireIndex_19 : decode cX8_requireIndex 19 = .ok (.athrow, 1) := by decide +kernel
theorem dX8_requireIndex_20 : decode cX8_requireIndex 20 = .ok (.return_, 1) := by decide +kernel
theorem dX8_isKey_0 : decode cX8_isKey 0 = .ok (.iload_n 0, 1) := by decide +kernel
theorem dX8_isKey_1 : decode cX8_isKey 1 = .ok (.iconst 0, 1) := by decide +kernel
theorem dX8_isKey_2 : decode cX8_isKey 2 = .ok (.bipush 9, 2) := by decide +kernel
theorem dX8_isKey_4 : decode cX8_isKey 4 = .ok (.invokestatic 164, 3) := by decide +kernel
theorem dX8_isKey_7 : decode cX8_isKey 7 = .ok (.ireturn, 1) := by decide +kernel
theorem dX8_isGroup_0 : decode cX8_isGroup 0 = .ok (.iload_n 0, 1) := by decide +kernel
theorem dX8_isGroup_1 : decode cX8_isGroup 1 = .ok (.iconst 0, 1) := by decide +kernel
theorem dX8_isGroup_2 : decode cX8_isGroup 2 = .ok (.iconst 5, 1) := by decide +kernel
theorem dX8_isGroup_3 : decode cX8_isGroup 3 = .ok (.invokestatic 164, 3) := by decide +kernel
theorem dX8_isGroup_6 : decode cX8_isGroup 6 = .ok (.ireturn, 1) := by decide +kernel
theorem dX8_isWithin_0 : decode cX8_isWithin 0 = .ok (.iload_n 0, 1) := by decide +kernel
theorem dX8_isWithin_1 : decode cX8_isWithin 1 = .ok (.iload_n 1, 1) := by decide +kernel
theorem dX8_isWithin_2 : decode cX8_isWithin 2 = .ok (.if_icmp .lt 12, 3) := by decide +kernel
theorem dX8_isWithin_5 : decode cX8_isWithin 5 = .ok (.iload_n 0, 1) := by decide +kernel
theorem dX8_isWithin_6 : decode cX8_isWithin 6 = .ok (.iload_n 2, 1) := by decide +kernel
theorem dX8_isWithin_7 : decode cX8_isWithin 7 = .ok (.if_icmp .gt 7, 3) := by decide +kernel
theorem dX8_isWithin_10 : decode cX8_isWithin 10 = .ok (.iconst 1, 1) := by decide +kernel
theorem dX8_isWithin_11 : decode cX8_isWithin 11 = .ok (.goto 4, 3) := by decide +kernel
theorem dX8_isWithin_14 : decode cX8_isWithin 14 = .ok (.iconst 0, 1) := by decide +kernel
theorem dX8_isWithin_15 : decode cX8_isWithin 15 = .ok (.ireturn, 1) := by decide +kernel
theorem dX8_leftCode_0 : decode cX8_leftCode 0 = .ok (.iload_n 0, 1) := by decide +kernel
theorem dX8_leftCode_1 : decode cX8_leftCode 1 = .ok (.bipush 6, 2) := by decide +kernel
theorem dX8_leftCode_3 : decode cX8_leftCode 3 = .ok (.imul, 1) := by decide +kernel
theorem dX8_leftCode_4 : decode cX8_leftCode 4 = .ok (.iload_n 1, 1) := by decide +kernel
theorem dX8_leftCode_5 : decode cX8_leftCode 5 = .ok (.iadd, 1) := by decide +kernel
theorem dX8_leftCode_6 : decode cX8_leftCode 6 = .ok (.sipush 199, 3) := by decide +kernel
theorem dX8_leftCode_9 : decode cX8_leftCode 9 = .ok (.imul, 1) := by decide +kernel
theorem dX8_leftCode_10 : decode cX8_leftCode 10 = .ok (.iload_n 2, 1) := by decide +kernel
theorem dX8_leftCode_11 : decode cX8_leftCode 11 = .ok (.iadd, 1) := by decide +kernel
theorem dX8_leftCode_12 : decode cX8_leftCode 12 = .ok (.bipush 99, 2) := by decide +kernel
theorem dX8_leftCode_14 : decode cX8_leftCode 14 = .ok (.iadd, 1) := by decide +kernel
theorem dX8_leftCode_15 : decode cX8_leftCode 15 = .ok (.ireturn, 1) := by decide +kernel
theorem dX8_leftKey_0 : decode cX8_leftKey 0 = .ok (.iload_n 0, 1) := by decide +kernel
theorem dX8_leftKey_1 : decode cX8_leftKey 1 = .ok (.sipush 199, 3) := by decide +kernel
theorem dX8_leftKey_4 : decode cX8_leftKey 4 = .ok (.idiv, 1) := by decide +kernel
theorem dX8_leftKey_5 : decode cX8_leftKey 5 = .ok (.bipush 6, 2) := by decide +kernel
theorem dX8_leftKey_7 : decode cX8_leftKey 7 = .ok (.idiv, 1) := by decide +kernel
theorem dX8_leftKey_8 : decode cX8_leftKey 8 = .ok (.ireturn, 1) := by decide +kernel
theorem dX8_leftGroup_0 : decode cX8_leftGroup 0 = .ok (.iload_n 0, 1) := by decide +kernel
theorem dX8_leftGroup_1 : decode cX8_leftGroup 1 = .ok (.sipush 199, 3) := by decide +kernel
theorem dX8_leftGroup_4 : decode cX8_leftGroup 4 = .ok (.idiv, 1) := by decide +kernel
theorem dX8_leftGroup_5 : decode cX8_leftGroup 5 = .ok (.bipush 6, 2) := by decide +kernel
theorem dX8_leftGroup_7 : decode cX8_leftGroup 7 = .ok (.irem, 1) := by decide +kernel
theorem dX8_leftGroup_8 : decode cX8_leftGroup 8 = .ok (.ireturn, 1) := by decide +kernel
theorem dX8_leftValue_0 : decode cX8_leftValue 0 = .ok (.iload_n 0, 1) := by decide +kernel
theorem dX8_leftValue_1 : decode cX8_leftValue 1 = .ok (.sipush 199, 3) := by decide +kernel
theorem dX8_leftValue_4 : decode cX8_leftValue 4 = .ok (.irem, 1) := by decide +kernel
theorem dX8_leftValue_5 : decode cX8_leftValue 5 = .ok (.bipush 99, 2) := by decide +kernel
theorem dX8_leftValue_7 : decode cX8_leftValue 7 = .ok (.isub, 1) := by decide +kernel
theorem dX8_leftValue_8 : decode cX8_leftValue 8 = .ok (.ireturn, 1) := by decide +kernel
theorem dX8_rightCode_0 : decode cX8_rightCode 0 = .ok (.iload_n 0, 1) := by decide +kernel
theorem dX8_rightCode_1 : decode cX8_rightCode 1 = .ok (.bipush 19, 2) := by decide +kernel
theorem dX8_rightCode_3 : decode cX8_rightCode 3 = .ok (.imul, 1) := by decide +kernel
theorem dX8_rightCode_4 : decode cX8_rightCode 4 = .ok (.iload_n 1, 1) := by decide +kernel
theorem dX8_rightCode_5 : decode cX8_rightCode 5 = .ok (.iadd, 1) := by decide +kernel
theorem dX8_rightCode_6 : decode cX8_rightCode 6 = .ok (.bipush 9, 2) := by decide +kernel
theorem dX8_rightCode_8 : decode cX8_rightCode 8 = .ok (.iadd, 1) := by decide +kernel
theorem dX8_rightCode_9 : decode cX8_rightCode 9 = .ok (.ireturn, 1) := by decide +kernel
theorem dX8_rightFactor_0 : decode cX8_rightFactor 0 = .ok (.iload_n 0, 1) := by decide +kernel
theorem dX8_rightFactor_1 : decode cX8_rightFactor 1 = .ok (.bipush 19, 2) := by decide +kernel
theorem dX8_rightFactor_3 : decode cX8_rightFactor 3 = .ok (.irem, 1) := by decide +kernel
theorem dX8_rightFactor_4 : decode cX8_rightFactor 4 = .ok (.bipush 9, 2) := by decide +kernel
theorem dX8_rightFactor_6 : decode cX8_rightFactor 6 = .ok (.isub, 1) := by decide +kernel
theorem dX8_rightFactor_7 : decode cX8_rightFactor 7 = .ok (.ireturn, 1) := by decide +kernel
theorem dX8_joinCode_0 : decode cX8_joinCode 0 = .ok (.iload_n 0, 1) := by decide +kernel
theorem dX8_joinCode_1 : decode cX8_joinCode 1 = .ok (.bipush 6, 2) := by decide +kernel
theorem dX8_joinCode_3 : decode cX8_joinCode 3 = .ok (.imul, 1) := by decide +kernel
theorem dX8_joinCode_4 : decode cX8_joinCode 4 = .ok (.iload_n 1, 1) := by decide +kernel
theorem dX8_joinCode_5 : decode cX8_joinCode 5 = .ok (.iadd, 1) := by decide +kernel
theorem dX8_joinCode_6 : decode cX8_joinCode 6 = .ok (.sipush 1783, 3) := by decide +kernel
theorem dX8_joinCode_9 : decode cX8_joinCode 9 = .ok (.imul, 1) := by decide +kernel
theorem dX8_joinCode_10 : decode cX8_joinCode 10 = .ok (.iload_n 2, 1) := by decide +kernel
theorem dX8_joinCode_11 : decode cX8_joinCode 11 = .ok (.iadd, 1) := by decide +kernel
theorem dX8_joinCode_12 : decode cX8_joinCode 12 = .ok (.sipush 891, 3) := by decide +kernel
theorem dX8_joinCode_15 : decode cX8_joinCode 15 = .ok (.iadd, 1) := by decide +kernel
theorem dX8_joinCode_16 : decode cX8_joinCode 16 = .ok (.ireturn, 1) := by decide +kernel
theorem dX8_joinKey_0 : decode cX8_joinKey 0 = .ok (.iload_n 0, 1) := by decide +kernel
theorem dX8_joinKey_1 : decode cX8_joinKey 1 = .ok (.sipush 1783, 3) := by decide +kernel
theorem dX8_joinKey_4 : decode cX8_joinKey 4 = .ok (.idiv, 1) := by decide +kernel
theorem dX8_joinKey_5 : decode cX8_joinKey 5 = .ok (.bipush 6, 2) := by decide +kernel
theorem dX8_joinKey_7 : decode cX8_joinKey 7 = .ok (.idiv, 1) := by decide +kernel
theorem dX8_joinKey_8 : decode cX8_joinKey 8 = .ok (.ireturn, 1) := by decide +kernel
theorem dX8_joinGroup_0 : decode cX8_joinGroup 0 = .ok (.iload_n 0, 1) := by decide +kernel
theorem dX8_joinGroup_1 : decode cX8_joinGroup 1 = .ok (.sipush 1783, 3) := by decide +kernel
theorem dX8_joinGroup_4 : decode cX8_joinGroup 4 = .ok (.idiv, 1) := by decide +kernel
theorem dX8_joinGroup_5 : decode cX8_joinGroup 5 = .ok (.bipush 6, 2) := by decide +kernel
theorem dX8_joinGroup_7 : decode cX8_joinGroup 7 = .ok (.irem, 1) := by decide +kernel
theorem dX8_joinGroup_8 : decode cX8_joinGroup 8 = .ok (.ireturn, 1) := by decide +kernel
theorem dX8_joinProduct_0 : decode cX8_joinProduct 0 = .ok (.iload_n 0, 1) := by decide +kernel
theorem dX8_joinProduct_1 : decode cX8_joinProduct 1 = .ok (.sipush 1783, 3) := by decide +kernel
theorem dX8_joinProduct_4 : decode cX8_joinProduct 4 = .ok (.irem, 1) := by decide +kernel
theorem dX8_joinProduct_5 : decode cX8_joinProduct 5 = .ok (.sipush 891, 3) := by decide +kernel
theorem dX8_joinProduct_8 : decode cX8_joinProduct 8 = .ok (.isub, 1) := by decide +kernel
theorem dX8_joinProduct_9 : decode cX8_joinProduct 9 = .ok (.ireturn, 1) := by decide +kernel
theorem dX8_joinColumn_0 : decode cX8_joinColumn 0 = .ok (.aload_n 0, 1) := by decide +kernel
theorem dX8_joinColumn_1 : decode cX8_joinColumn 1 = .ok (.iload_n 1, 1) := by decide +kernel
theorem dX8_joinColumn_2 : decode cX8_joinColumn 2 = .ok (.invokevirtual 308, 3) := by decide +kernel
theorem dX8_joinColumn_5 : decode cX8_joinColumn 5 = .ok (.istore_n 3, 1) := by decide +kernel
theorem dX8_joinColumn_6 : decode cX8_joinColumn 6 = .ok (.iload_n 2, 1) := by decide +kernel
theorem dX8_joinColumn_7 : decode cX8_joinColumn 7 = .ok (.tableswitch 40 0 2 #[25, 30, 35], 25) := by decide +kernel
theorem dX8_joinColumn_32 : decode cX8_joinColumn 32 = .ok (.iload_n 3, 1) := by decide +kernel
theorem dX8_joinColumn_33 : decode cX8_joinColumn 33 = .ok (.invokestatic 311, 3) := by decide +kernel
theorem dX8_joinColumn_36 : decode cX8_joinColumn 36 = .ok (.ireturn, 1) := by decide +kernel
theorem dX8_joinColumn_37 : decode cX8_joinColumn 37 = .ok (.iload_n 3, 1) := by decide +kernel
theorem dX8_joinColumn_38 : decode cX8_joinColumn 38 = .ok (.invokestatic 314, 3) := by decide +kernel
theorem dX8_joinColumn_41 : decode cX8_joinColumn 41 = .ok (.ireturn, 1) := by decide +kernel
theorem dX8_joinColumn_42 : decode cX8_joinColumn 42 = .ok (.iload_n 3, 1) := by decide +kernel
theorem dX8_joinColumn_43 : decode cX8_joinColumn 43 = .ok (.invokestatic 317, 3) := by decide +kernel
theorem dX8_joinColumn_46 : decode cX8_joinColumn 46 = .ok (.ireturn, 1) := by decide +kernel
theorem dX8_joinColumn_47 : decode cX8_joinColumn 47 = .ok (.aload_n 0, 1) := by decide +kernel
theorem dX8_joinColumn_48 : decode cX8_joinColumn 48 = .ok (.iload_n 1, 1) := by decide +kernel
theorem dX8_joinColumn_49 : decode cX8_joinColumn 49 = .ok (.invokevirtual 320, 3) := by decide +kernel
theorem dX8_joinColumn_52 : decode cX8_joinColumn 52 = .ok (.ireturn, 1) := by decide +kernel
theorem dX9_init_0 : decode cX9_init 0 = .ok (.aload_n 0, 1) := by decide +kernel
theorem dX9_init_1 : decode cX9_init 1 = .ok (.invokespecial 1, 3) := by decide +kernel
theorem dX9_init_4 : decode cX9_init 4 = .ok (.aload_n 0, 1) := by decide +kernel
theorem dX9_init_5 : decode cX9_init 5 = .ok (.sipush 960, 3) := by decide +kernel
theorem dX9_init_8 : decode cX9_init 8 = .ok (.newarray .int, 2) := by decide +kernel
theorem dX9_init_10 : decode cX9_init 10 = .ok (.putfield 7, 3) := by decide +kernel
theorem dX9_init_13 : decode cX9_init 13 = .ok (.aload_n 0, 1) := by decide +kernel
theorem dX9_init_14 : decode cX9_init 14 = .ok (.bipush 16, 2) := by decide +kernel
theorem dX9_init_16 : decode cX9_init 16 = .ok (.newarray .int, 2) := by decide +kernel
theorem dX9_init_18 : decode cX9_init 18 = .ok (.putfield 13, 3) := by decide +kernel
theorem dX9_init_21 : decode cX9_init 21 = .ok (.aload_n 0, 1) := by decide +kernel
theorem dX9_init_22 : decode cX9_init 22 = .ok (.bipush 40, 2) := by decide +kernel
theorem dX9_init_24 : decode cX9_init 24 = .ok (.newarray .int, 2) := by decide +kernel
theorem dX9_init_26 : decode cX9_init 26 = .ok (.putfield 16, 3) := by decide +kernel
theorem dX9_init_29 : decode cX9_init 29 = .ok (.aload_n 0, 1) := by decide +kernel
theorem dX9_init_30 : decode cX9_init 30 = .ok (.bipush 40, 2) := by decide +kernel
theorem dX9_init_32 : decode cX9_init 32 = .ok (.newarray .int, 2) := by decide +kernel
theorem dX9_init_34 : decode cX9_init 34 = .ok (.putfield 19, 3) := by decide +kernel
theorem dX9_init_37 : decode cX9_init 37 = .ok (.aload_n 0, 1) := by decide +kernel
theorem dX9_init_38 : decode cX9_init 38 = .ok (.bipush 40, 2) := by decide +kernel
theorem dX9_init_40 : decode cX9_init 40 = .ok (.newarray .int, 2) := by decide +kernel
theorem dX9_init_42 : decode cX9_init 42 = .ok (.putfield 22, 3) := by decide +kernel
theorem dX9_init_45 : decode cX9_init 45 = .ok (.aload_n 0, 1) := by decide +kernel
theorem dX9_init_46 : decode cX9_init 46 = .ok (.bipush 40, 2) := by decide +kernel
theorem dX9_init_48 : decode cX9_init 48 = .ok (.newarray .int, 2) := by decide +kernel
theorem dX9_init_50 : decode cX9_init 50 = .ok (.putfield 25, 3) := by decide +kernel
theorem dX9_init_53 : decode cX9_init 53 = .ok (.aload_n 0, 1) := by decide +kernel
theorem dX9_init_54 : decode cX9_init 54 = .ok (.bipush 40, 2) := by decide +kernel
theorem dX9_init_56 : decode cX9_init 56 = .ok (.newarray .boolean, 2) := by decide +kernel
theorem dX9_init_58 : decode cX9_init 58 = .ok (.putfield 28, 3) := by decide +kernel
theorem dX9_init_61 : decode cX9_init 61 = .ok (.aload_n 0, 1) := by decide +kernel
theorem dX9_init_62 : decode cX9_init 62 = .ok (.sipush 1783, 3) := by decide +kernel
theorem dX9_init_65 : decode cX9_init 65 = .ok (.newarray .int, 2) := by decide +kernel
theorem dX9_init_67 : decode cX9_init 67 = .ok (.putfield 32, 3) := by decide +kernel
theorem dX9_init_70 : decode cX9_init 70 = .ok (.aload_n 0, 1) := by decide +kernel
theorem dX9_init_71 : decode cX9_init 71 = .ok (.iconst 1, 1) := by decide +kernel
theorem dX9_init_72 : decode cX9_init 72 = .ok (.putfield 35, 3) := by decide +kernel
theorem dX9_init_75 : decode cX9_init 75 = .ok (.aload_n 0, 1) := by decide +kernel
theorem dX9_init_76 : decode cX9_init 76 = .ok (.bipush 6, 2) := by decide +kernel
theorem dX9_init_78 : decode cX9_init 78 = .ok (.newarray .int, 2) := by decide +kernel
theorem dX9_init_80 : decode cX9_init 80 = .ok (.putfield 39, 3) := by decide +kernel
theorem dX9_init_83 : decode cX9_init 83 = .ok (.aload_n 0, 1) := by decide +kernel
theorem dX9_init_84 : decode cX9_init 84 = .ok (.bipush 6, 2) := by decide +kernel
theorem dX9_init_86 : decode cX9_init 86 = .ok (.newarray .int, 2) := by decide +kernel
theorem dX9_init_88 : decode cX9_init 88 = .ok (.putfield 42, 3) := by decide +kernel
theorem dX9_init_91 : decode cX9_init 91 = .ok (.aload_n 0, 1) := by decide +kernel
theorem dX9_init_92 : decode cX9_init 92 = .ok (.bipush 6, 2) := by decide +kernel
theorem dX9_init_94 : decode cX9_init 94 = .ok (.newarray .int, 2) := by decide +kernel
theorem dX9_init_96 : decode cX9_init 96 = .ok (.putfield 45, 3) := by decide +kernel
theorem dX9_init_99 : decode cX9_init 99 = .ok (.aload_n 0, 1) := by decide +kernel
theorem dX9_init_100 : decode cX9_init 100 = .ok (.bipush 6, 2) := by decide +kernel
theorem dX9_init_102 : decode cX9_init 102 = .ok (.newarray .int, 2) := by decide +kernel
theorem dX9_init_104 : decode cX9_init 104 = .ok (.putfield 48, 3) := by decide +kernel
theorem dX9_init_107 : decode cX9_init 107 = .ok (.aload_n 0, 1) := by decide +kernel
theorem dX9_init_108 : decode cX9_init 108 = .ok (.bipush 6, 2) := by decide +kernel
theorem dX9_init_110 : decode cX9_init 110 = .ok (.newarray .int, 2) := by decide +kernel
theorem dX9_init_112 : decode cX9_init 112 = .ok (.putfield 51, 3) := by decide +kernel
theorem dX9_init_115 : decode cX9_init 115 = .ok (.aload_n 0, 1) := by decide +kernel
theorem dX9_init_116 : decode cX9_init 116 = .ok (.bipush 6, 2) := by decide +kernel
theorem dX9_init_118 : decode cX9_init 118 = .ok (.newarray .int, 2) := by decide +kernel
theorem dX9_init_120 : decode cX9_init 120 = .ok (.putfield 54, 3) := by decide +kernel
theorem dX9_init_123 : decode cX9_init 123 = .ok (.aload_n 0, 1) := by decide +kernel
theorem dX9_init_124 : decode cX9_init 124 = .ok (.bipush 40, 2) := by decide +kernel
theorem dX9_init_126 : decode cX9_init 126 = .ok (.newarray .int, 2) := by decide +kernel
theorem dX9_init_128 : decode cX9_init 128 = .ok (.putfield 57, 3) := by decide +kernel
theorem dX9_init_131 : decode cX9_init 131 = .ok (.aload_n 0, 1) := by decide +kernel
theorem dX9_init_132 : decode cX9_init 132 = .ok (.iconst (-1), 1) := by decide +kernel
theorem dX9_init_133 : decode cX9_init 133 = .ok (.putfield 60, 3) := by decide +kernel
theorem dX9_init_136 : decode cX9_init 136 = .ok (.return_, 1) := by decide +kernel
theorem dX9_thrown_0 : decode cX9_thrown 0 = .ok (.aload_n 0, 1) := by decide +kernel
theorem dX9_thrown_1 : decode cX9_thrown 1 = .ok (.getfield 64, 3) := by decide +kernel
theorem dX9_thrown_4 : decode cX9_thrown 4 = .ok (.ireturn, 1) := by decide +kernel
theorem dX9_fails_0 : decode cX9_fails 0 = .ok (.aload_n 0, 1) := by decide +kernel
theorem dX9_fails_1 : decode cX9_fails 1 = .ok (.iload_n 1, 1) := by decide +kernel
theorem dX9_fails_2 : decode cX9_fails 2 = .ok (.putfield 64, 3) := by decide +kernel
theorem dX9_fails_5 : decode cX9_fails 5 = .ok (.iconst 0, 1) := by decide +kernel
theorem dX9_fails_6 : decode cX9_fails 6 = .ok (.ireturn, 1) := by decide +kernel
theorem dX9_refuses_0 : decode cX9_refuses 0 = .ok (.aload_n 0, 1) := by decide +kernel
theorem dX9_refuses_1 : decode cX9_refuses 1 = .ok (.iload_n 1, 1) := by decide +kernel
theorem dX9_refuses_2 : decode cX9_refuses 2 = .ok (.putfield 64, 3) := by decide +kernel
theorem dX9_refuses_5 : decode cX9_refuses 5 = .ok (.iconst 0, 1) := by decide +kernel
theorem dX9_refuses_6 : decode cX9_refuses 6 = .ok (.ireturn, 1) := by decide +kernel
theorem dX9_isBetween_0 : decode cX9_isBetween 0 = .ok (.iload_n 0, 1) := by decide +kernel
theorem dX9_isBetween_1 : decode cX9_isBetween 1 = .ok (.iload_n 1, 1) := by decide +kernel
theorem dX9_isBetween_2 : decode cX9_isBetween 2 = .ok (.if_icmp .lt 12, 3) := by decide +kernel
theorem dX9_isBetween_5 : decode cX9_isBetween 5 = .ok (.iload_n 0, 1) := by decide +kernel
theorem dX9_isBetween_6 : decode cX9_isBetween 6 = .ok (.iload_n 2, 1) := by decide +kernel
theorem dX9_isBetween_7 : decode cX9_isBetween 7 = .ok (.if_icmp .gt 7, 3) := by decide +kernel
theorem dX9_isBetween_10 : decode cX9_isBetween 10 = .ok (.iconst 1, 1) := by decide +kernel
theorem dX9_isBetween_11 : decode cX9_isBetween 11 = .ok (.goto 4, 3) := by decide +kernel
theorem dX9_isBetween_14 : decode cX9_isBetween 14 = .ok (.iconst 0, 1) := by decide +kernel
theorem dX9_isBetween_15 : decode cX9_isBetween 15 = .ok (.ireturn, 1) := by decide +kernel
theorem dX9_isLeft_0 : decode cX9_isLeft 0 = .ok (.iload_n 0, 1) := by decide +kernel
theorem dX9_isLeft_1 : decode cX9_isLeft 1 = .ok (.iconst 0, 1) := by decide +kernel
theorem dX9_isLeft_2 : decode cX9_isLeft 2 = .ok (.bipush 9, 2) := by decide +kernel
theorem dX9_isLeft_4 : decode cX9_isLeft 4 = .ok (.invokestatic 67, 3) := by decide +kernel
theorem dX9_isLeft_7 : decode cX9_isLeft 7 = .ok (.ifCond .eq 27, 3) := by decide +kernel
theorem dX9_isLeft_10 : decode cX9_isLeft 10 = .ok (.iload_n 1, 1) := by decide +kernel
theorem dX9_isLeft_11 : decode cX9_isLeft 11 = .ok (.iconst 0, 1) := by decide +kernel
theorem dX9_isLeft_12 : decode cX9_isLeft 12 = .ok (.iconst 5, 1) := by decide +kernel
theorem dX9_isLeft_13 : decode cX9_isLeft 13 = .ok (.invokestatic 67, 3) := by decide +kernel
theorem dX9_isLeft_16 : decode cX9_isLeft 16 = .ok (.ifCond .eq 18, 3) := by decide +kernel
theorem dX9_isLeft_19 : decode cX9_isLeft 19 = .ok (.iload_n 2, 1) := by decide +kernel
theorem dX9_isLeft_20 : decode cX9_isLeft 20 = .ok (.bipush (-99), 2) := by decide +kernel
theorem dX9_isLeft_22 : decode cX9_isLeft 22 = .ok (.bipush 99, 2) := by decide +kernel
theorem dX9_isLeft_24 : decode cX9_isLeft 24 = .ok (.invokestatic 67, 3) := by decide +kernel
theorem dX9_isLeft_27 : decode cX9_isLeft 27 = .ok (.ifCond .eq 7, 3) := by decide +kernel
theorem dX9_isLeft_30 : decode cX9_isLeft 30 = .ok (.iconst 1, 1) := by decide +kernel
theorem dX9_isLeft_31 : decode cX9_isLeft 31 = .ok (.goto 4, 3) := by decide +kernel
theorem dX9_isLeft_34 : decode cX9_isLeft 34 = .ok (.iconst 0, 1) := by decide +kernel
theorem dX9_isLeft_35 : decode cX9_isLeft 35 = .ok (.ireturn, 1) := by decide +kernel
theorem dX9_isRight_0 : decode cX9_isRight 0 = .ok (.iload_n 0, 1) := by decide +kernel
theorem dX9_isRight_1 : decode cX9_isRight 1 = .ok (.iconst 0, 1) := by decide +kernel
theorem dX9_isRight_2 : decode cX9_isRight 2 = .ok (.bipush 9, 2) := by decide +kernel
theorem dX9_isRight_4 : decode cX9_isRight 4 = .ok (.invokestatic 67, 3) := by decide +kernel
theorem dX9_isRight_7 : decode cX9_isRight 7 = .ok (.ifCond .eq 18, 3) := by decide +kernel
theorem dX9_isRight_10 : decode cX9_isRight 10 = .ok (.iload_n 1, 1) := by decide +kernel
theorem dX9_isRight_11 : decode cX9_isRight 11 = .ok (.bipush (-9), 2) := by decide +kernel
theorem dX9_isRight_13 : decode cX9_isRight 13 = .ok (.bipush 9, 2) := by decide +kernel
theorem dX9_isRight_15 : decode cX9_isRight 15 = .ok (.invokestatic 67, 3) := by decide +kernel
theorem dX9_isRight_18 : decode cX9_isRight 18 = .ok (.ifCond .eq 7, 3) := by decide +kernel
theorem dX9_isRight_21 : decode cX9_isRight 21 = .ok (.iconst 1, 1) := by decide +kernel
theorem dX9_isRight_22 : decode cX9_isRight 22 = .ok (.goto 4, 3) := by decide +kernel
theorem dX9_isRight_25 : decode cX9_isRight 25 = .ok (.iconst 0, 1) := by decide +kernel
theorem dX9_isRight_26 : decode cX9_isRight 26 = .ok (.ireturn, 1) := by decide +kernel
theorem dX9_leftOf_0 : decode cX9_leftOf 0 = .ok (.iload_n 0, 1) := by decide +kernel
theorem dX9_leftOf_1 : decode cX9_leftOf 1 = .ok (.bipush 6, 2) := by decide +kernel
theorem dX9_leftOf_3 : decode cX9_leftOf 3 = .ok (.imul, 1) := by decide +kernel
theorem dX9_leftOf_4 : decode cX9_leftOf 4 = .ok (.iload_n 1, 1) := by decide +kernel
theorem dX9_leftOf_5 : decode cX9_leftOf 5 = .ok (.iadd, 1) := by decide +kernel
theorem dX9_leftOf_6 : decode cX9_leftOf 6 = .ok (.sipush 199, 3) := by decide +kernel
theorem dX9_leftOf_9 : decode cX9_leftOf 9 = .ok (.imul, 1) := by decide +kernel
theorem dX9_leftOf_10 : decode cX9_leftOf 10 = .ok (.iload_n 2, 1) := by decide +kernel
theorem dX9_leftOf_11 : decode cX9_leftOf 11 = .ok (.iadd, 1) := by decide +kernel
theorem dX9_leftOf_12 : decode cX9_leftOf 12 = .ok (.bipush 99, 2) := by decide +kernel
theorem dX9_leftOf_14 : decode cX9_leftOf 14 = .ok (.iadd, 1) := by decide +kernel
theorem dX9_leftOf_15 : decode cX9_leftOf 15 = .ok (.ireturn, 1) := by decide +kernel
theorem dX9_rightOf_0 : decode cX9_rightOf 0 = .ok (.iload_n 0, 1) := by decide +kernel
theorem dX9_rightOf_1 : decode cX9_rightOf 1 = .ok (.bipush 19, 2) := by decide +kernel
theorem dX9_rightOf_3 : decode cX9_rightOf 3 = .ok (.imul, 1) := by decide +kernel
theorem dX9_rightOf_4 : decode cX9_rightOf 4 = .ok (.iload_n 1, 1) := by decide +kernel
theorem dX9_rightOf_5 : decode cX9_rightOf 5 = .ok (.iadd, 1) := by decide +kernel
theorem dX9_rightOf_6 : decode cX9_rightOf 6 = .ok (.bipush 9, 2) := by decide +kernel
theorem dX9_rightOf_8 : decode cX9_rightOf 8 = .ok (.iadd, 1) := by decide +kernel
theorem dX9_rightOf_9 : decode cX9_rightOf 9 = .ok (.ireturn, 1) := by decide +kernel
theorem dX9_countOf_0 : decode cX9_countOf 0 = .ok (.iconst 0, 1) := by decide +kernel
theorem dX9_countOf_1 : decode cX9_countOf 1 = .ok (.istore_n 3, 1) := by decide +kernel
theorem dX9_countOf_2 : decode cX9_countOf 2 = .ok (.iconst 0, 1) := by decide +kernel
theorem dX9_countOf_3 : decode cX9_countOf 3 = .ok (.istore 4, 2) := by decide +kernel
theorem dX9_countOf_5 : decode cX9_countOf 5 = .ok (.iload 4, 2) := by decide +kernel
theorem dX9_countOf_7 : decode cX9_countOf 7 = .ok (.aload_n 0, 1) := by decide +kernel
theorem dX9_countOf_8 : decode cX9_countOf 8 = .ok (.getfield 13, 3) := by decide +kernel
theorem dX9_countOf_11 : decode cX9_countOf 11 = .ok (.iload_n 1, 1) := by decide +kernel
theorem dX9_countOf_12 : decode cX9_countOf 12 = .ok (.iaload, 1) := by decide +kernel
theorem dX9_countOf_13 : decode cX9_countOf 13 = .ok (.if_icmp .ge 33, 3) := by decide +kernel
theorem dX9_countOf_16 : decode cX9_countOf 16 = .ok (.iload_n 3, 1) := by decide +kernel
theorem dX9_countOf_17 : decode cX9_countOf 17 = .ok (.aload_n 0, 1) := by decide +kernel
theorem dX9_countOf_18 : decode cX9_countOf 18 = .ok (.getfield 7, 3) := by decide +kernel
theorem dX9_countOf_21 : decode cX9_countOf 21 = .ok (.bipush 60, 2) := by decide +kernel
theorem dX9_countOf_23 : decode cX9_countOf 23 = .ok (.iload_n 1, 1) := by decide +kernel
theorem dX9_countOf_24 : decode cX9_countOf 24 = .ok (.imul, 1) := by decide +kernel
theorem dX9_countOf_25 : decode cX9_countOf 25 = .ok (.iload 4, 2) := by decide +kernel
theorem dX9_countOf_27 : decode cX9_countOf 27 = .ok (.iadd, 1) := by decide +kernel
theorem dX9_countOf_28 : decode cX9_countOf 28 = .ok (.iaload, 1) := by decide +kernel
theorem dX9_countOf_29 : decode cX9_countOf 29 = .ok (.iload_n 2, 1) := by decide +kernel
theorem dX9_countOf_30 : decode cX9_countOf 30 = .ok (.if_icmp .ne 7, 3) := by decide +kernel
theorem dX9_countOf_33 : decode cX9_countOf 33 = .ok (.iconst 1, 1) := by decide +kernel
theorem dX9_countOf_34 : decode cX9_countOf 34 = .ok (.goto 4, 3) := by decide +kernel
theorem dX9_countOf_37 : decode cX9_countOf 37 = .ok (.iconst 0, 1) := by decide +kernel
theorem dX9_countOf_38 : decode cX9_countOf 38 = .ok (.iadd, 1) := by decide +kernel
theorem dX9_countOf_39 : decode cX9_countOf 39 = .ok (.istore_n 3, 1) := by decide +kernel
theorem dX9_countOf_40 : decode cX9_countOf 40 = .ok (.iinc 4 1, 3) := by decide +kernel
theorem dX9_countOf_43 : decode cX9_countOf 43 = .ok (.goto (-38), 3) := by decide +kernel
theorem dX9_countOf_46 : decode cX9_countOf 46 = .ok (.iload_n 3, 1) := by decide +kernel
theorem dX9_countOf_47 : decode cX9_countOf 47 = .ok (.ireturn, 1) := by decide +kernel
theorem dX9_puts_0 : decode cX9_puts 0 = .ok (.aload_n 0, 1) := by decide +kernel
theorem dX9_puts_1 : decode cX9_puts 1 = .ok (.getfield 13, 3) := by decide +kernel
theorem dX9_puts_4 : decode cX9_puts 4 = .ok (.iload_n 1, 1) := by decide +kernel
theorem dX9_puts_5 : decode cX9_puts 5 = .ok (.iaload, 1) := by decide +kernel
theorem dX9_puts_6 : decode cX9_puts 6 = .ok (.istore_n 3, 1) := by decide +kernel
theorem dX9_puts_7 : decode cX9_puts 7 = .ok (.iload_n 3, 1) := by decide +kernel
theorem dX9_puts_8 : decode cX9_puts 8 = .ok (.ifCond .le 50, 3) := by decide +kernel
theorem dX9_puts_11 : decode cX9_puts 11 = .ok (.aload_n 0, 1) := by decide +kernel
theorem dX9_puts_12 : decode cX9_puts 12 = .ok (.getfield 7, 3) := by decide +kernel
theorem dX9_puts_15 : decode cX9_puts 15 = .ok (.bipush 60, 2) := by decide +kernel
theorem dX9_puts_17 : decode cX9_puts 17 = .ok (.iload_n 1, 1) := by decide +kernel
theorem dX9_puts_18 : decode cX9_puts 18 = .ok (.imul, 1) := by decide +kernel
theorem dX9_puts_19 : decode cX9_puts 19 = .ok (.iload_n 3, 1) := by decide +kernel
theorem dX9_puts_20 : decode cX9_puts 20 = .ok (.iadd, 1) := by decide +kernel
theorem dX9_puts_21 : decode cX9_puts 21 = .ok (.iconst 1, 1) := by decide +kernel
theorem dX9_puts_22 : decode cX9_puts 22 = .ok (.isub, 1) := by decide +kernel
theorem dX9_puts_23 : decode cX9_puts 23 = .ok (.iaload, 1) := by decide +kernel
theorem dX9_puts_24 : decode cX9_puts 24 = .ok (.iload_n 2, 1) := by decide +kernel
theorem dX9_puts_25 : decode cX9_puts 25 = .ok (.if_icmp .le 33, 3) := by decide +kernel
theorem dX9_puts_28 : decode cX9_puts 28 = .ok (.aload_n 0, 1) := by decide +kernel
theorem dX9_puts_29 : decode cX9_puts 29 = .ok (.getfield 7, 3) := by decide +kernel
theorem dX9_puts_32 : decode cX9_puts 32 = .ok (.bipush 60, 2) := by decide +kernel
theorem dX9_puts_34 : decode cX9_puts 34 = .ok (.iload_n 1, 1) := by decide +kernel
theorem dX9_puts_35 : decode cX9_puts 35 = .ok (.imul, 1) := by decide +kernel
theorem dX9_puts_36 : decode cX9_puts 36 = .ok (.iload_n 3, 1) := by decide +kernel
theorem dX9_puts_37 : decode cX9_puts 37 = .ok (.iadd, 1) := by decide +kernel
theorem dX9_puts_38 : decode cX9_puts 38 = .ok (.aload_n 0, 1) := by decide +kernel
theorem dX9_puts_39 : decode cX9_puts 39 = .ok (.getfield 7, 3) := by decide +kernel
theorem dX9_puts_42 : decode cX9_puts 42 = .ok (.bipush 60, 2) := by decide +kernel
theorem dX9_puts_44 : decode cX9_puts 44 = .ok (.iload_n 1, 1) := by decide +kernel
theorem dX9_puts_45 : decode cX9_puts 45 = .ok (.imul, 1) := by decide +kernel
theorem dX9_puts_46 : decode cX9_puts 46 = .ok (.iload_n 3, 1) := by decide +kernel
theorem dX9_puts_47 : decode cX9_puts 47 = .ok (.iadd, 1) := by decide +kernel
theorem dX9_puts_48 : decode cX9_puts 48 = .ok (.iconst 1, 1) := by decide +kernel
theorem dX9_puts_49 : decode cX9_puts 49 = .ok (.isub, 1) := by decide +kernel
theorem dX9_puts_50 : decode cX9_puts 50 = .ok (.iaload, 1) := by decide +kernel
theorem dX9_puts_51 : decode cX9_puts 51 = .ok (.iastore, 1) := by decide +kernel
theorem dX9_puts_52 : decode cX9_puts 52 = .ok (.iinc 3 (-1), 3) := by decide +kernel
theorem dX9_puts_55 : decode cX9_puts 55 = .ok (.goto (-48), 3) := by decide +kernel
theorem dX9_puts_58 : decode cX9_puts 58 = .ok (.aload_n 0, 1) := by decide +kernel
theorem dX9_puts_59 : decode cX9_puts 59 = .ok (.getfield 7, 3) := by decide +kernel
theorem dX9_puts_62 : decode cX9_puts 62 = .ok (.bipush 60, 2) := by decide +kernel
theorem dX9_puts_64 : decode cX9_puts 64 = .ok (.iload_n 1, 1) := by decide +kernel
theorem dX9_puts_65 : decode cX9_puts 65 = .ok (.imul, 1) := by decide +kernel
theorem dX9_puts_66 : decode cX9_puts 66 = .ok (.iload_n 3, 1) := by decide +kernel
theorem dX9_puts_67 : decode cX9_puts 67 = .ok (.iadd, 1) := by decide +kernel
theorem dX9_puts_68 : decode cX9_puts 68 = .ok (.iload_n 2, 1) := by decide +kernel
theorem dX9_puts_69 : decode cX9_puts 69 = .ok (.iastore, 1) := by decide +kernel
theorem dX9_puts_70 : decode cX9_puts 70 = .ok (.aload_n 0, 1) := by decide +kernel
theorem dX9_puts_71 : decode cX9_puts 71 = .ok (.getfield 13, 3) := by decide +kernel
theorem dX9_puts_74 : decode cX9_puts 74 = .ok (.iload_n 1, 1) := by decide +kernel
theorem dX9_puts_75 : decode cX9_puts 75 = .ok (.dup2, 1) := by decide +kernel
theorem dX9_puts_76 : decode cX9_puts 76 = .ok (.iaload, 1) := by decide +kernel
theorem dX9_puts_77 : decode cX9_puts 77 = .ok (.iconst 1, 1) := by decide +kernel
theorem dX9_puts_78 : decode cX9_puts 78 = .ok (.iadd, 1) := by decide +kernel
theorem dX9_puts_79 : decode cX9_puts 79 = .ok (.iastore, 1) := by decide +kernel
theorem dX9_puts_80 : decode cX9_puts 80 = .ok (.return_, 1) := by decide +kernel
theorem dX9_takes_0 : decode cX9_takes 0 = .ok (.iconst 0, 1) := by decide +kernel
theorem dX9_takes_1 : decode cX9_takes 1 = .ok (.istore_n 3, 1) := by decide +kernel
theorem dX9_takes_2 : decode cX9_takes 2 = .ok (.aload_n 0, 1) := by decide +kernel
theorem dX9_takes_3 : decode cX9_takes 3 = .ok (.getfield 7, 3) := by decide +kernel
theorem dX9_takes_6 : decode cX9_takes 6 = .ok (.bipush 60, 2) := by decide +kernel
theorem dX9_takes_8 : decode cX9_takes 8 = .ok (.iload_n 1, 1) := by decide +kernel
theorem dX9_takes_9 : decode cX9_takes 9 = .ok (.imul, 1) := by decide +kernel
theorem dX9_takes_10 : decode cX9_takes 10 = .ok (.iload_n 3, 1) := by decide +kernel
theorem dX9_takes_11 : decode cX9_takes 11 = .ok (.iadd, 1) := by decide +kernel
theorem dX9_takes_12 : decode cX9_takes 12 = .ok (.iaload, 1) := by decide +kernel
theorem dX9_takes_13 : decode cX9_takes 13 = .ok (.iload_n 2, 1) := by decide +kernel
theorem dX9_takes_14 : decode cX9_takes 14 = .ok (.if_icmp .eq 9, 3) := by decide +kernel
theorem dX9_takes_17 : decode cX9_takes 17 = .ok (.iinc 3 1, 3) := by decide +kernel
theorem dX9_takes_20 : decode cX9_takes 20 = .ok (.goto (-18), 3) := by decide +kernel
theorem dX9_takes_23 : decode cX9_takes 23 = .ok (.aload_n 0, 1) := by decide +kernel
theorem dX9_takes_24 : decode cX9_takes 24 = .ok (.getfield 13, 3) := by decide +kernel
theorem dX9_takes_27 : decode cX9_takes 27 = .ok (.iload_n 1, 1) := by decide +kernel
theorem dX9_takes_28 : decode cX9_takes 28 = .ok (.dup2, 1) := by decide +kernel
theorem dX9_takes_29 : decode cX9_takes 29 = .ok (.iaload, 1) := by decide +kernel
theorem dX9_takes_30 : decode cX9_takes 30 = .ok (.iconst 1, 1) := by decide +kernel
theorem dX9_takes_31 : decode cX9_takes 31 = .ok (.isub, 1) := by decide +kernel
theorem dX9_takes_32 : decode cX9_takes 32 = .ok (.iastore, 1) := by decide +kernel
theorem dX9_takes_33 : decode cX9_takes 33 = .ok (.iload_n 3, 1) := by decide +kernel
theorem dX9_takes_34 : decode cX9_takes 34 = .ok (.istore 4, 2) := by decide +kernel
theorem dX9_takes_36 : decode cX9_takes 36 = .ok (.iload 4, 2) := by decide +kernel
theorem dX9_takes_38 : decode cX9_takes 38 = .ok (.aload_n 0, 1) := by decide +kernel
theorem dX9_takes_39 : decode cX9_takes 39 = .ok (.getfield 13, 3) := by decide +kernel
theorem dX9_takes_42 : decode cX9_takes 42 = .ok (.iload_n 1, 1) := by decide +kernel
theorem dX9_takes_43 : decode cX9_takes 43 = .ok (.iaload, 1) := by decide +kernel
theorem dX9_takes_44 : decode cX9_takes 44 = .ok (.if_icmp .ge 35, 3) := by decide +kernel
theorem dX9_takes_47 : decode cX9_takes 47 = .ok (.aload_n 0, 1) := by decide +kernel
theorem dX9_takes_48 : decode cX9_takes 48 = .ok (.getfield 7, 3) := by decide +kernel
theorem dX9_takes_51 : decode cX9_takes 51 = .ok (.bipush 60, 2) := by decide +kernel
theorem dX9_takes_53 : decode cX9_takes 53 = .ok (.iload_n 1, 1) := by decide +kernel
theorem dX9_takes_54 : decode cX9_takes 54 = .ok (.imul, 1) := by decide +kernel
theorem dX9_takes_55 : decode cX9_takes 55 = .ok (.iload 4, 2) := by decide +kernel
theorem dX9_takes_57 : decode cX9_takes 57 = .ok (.iadd, 1) := by decide +kernel
theorem dX9_takes_58 : decode cX9_takes 58 = .ok (.aload_n 0, 1) := by decide +kernel
theorem dX9_takes_59 : decode cX9_takes 59 = .ok (.getfield 7, 3) := by decide +kernel
theorem dX9_takes_62 : decode cX9_takes 62 = .ok (.bipush 60, 2) := by decide +kernel
theorem dX9_takes_64 : decode cX9_takes 64 = .ok (.iload_n 1, 1) := by decide +kernel
theorem dX9_takes_65 : decode cX9_takes 65 = .ok (.imul, 1) := by decide +kernel
theorem dX9_takes_66 : decode cX9_takes 66 = .ok (.iload 4, 2) := by decide +kernel
theorem dX9_takes_68 : decode cX9_takes 68 = .ok (.iadd, 1) := by decide +kernel
theorem dX9_takes_69 : decode cX9_takes 69 = .ok (.iconst 1, 1) := by decide +kernel
theorem dX9_takes_70 : decode cX9_takes 70 = .ok (.iadd, 1) := by decide +kernel
theorem dX9_takes_71 : decode cX9_takes 71 = .ok (.iaload, 1) := by decide +kernel
theorem dX9_takes_72 : decode cX9_takes 72 = .ok (.iastore, 1) := by decide +kernel
theorem dX9_takes_73 : decode cX9_takes 73 = .ok (.iinc 4 1, 3) := by decide +kernel
theorem dX9_takes_76 : decode cX9_takes 76 = .ok (.goto (-40), 3) := by decide +kernel
theorem dX9_takes_79 : decode cX9_takes 79 = .ok (.return_, 1) := by decide +kernel
theorem dX9_copies_0 : decode cX9_copies 0 = .ok (.iconst 0, 1) := by decide +kernel
theorem dX9_copies_1 : decode cX9_copies 1 = .ok (.istore_n 3, 1) := by decide +kernel
theorem dX9_copies_2 : decode cX9_copies 2 = .ok (.iload_n 3, 1) := by decide +kernel
theorem dX9_copies_3 : decode cX9_copies 3 = .ok (.bipush 120, 2) := by decide +kernel
theorem dX9_copies_5 : decode cX9_copies 5 = .ok (.if_icmp .ge 31, 3) := by decide +kernel
theorem dX9_copies_8 : decode cX9_copies 8 = .ok (.aload_n 0, 1) := by decide +kernel
theorem dX9_copies_9 : decode cX9_copies 9 = .ok (.getfield 7, 3) := by decide +kernel
theorem dX9_copies_12 : decode cX9_copies 12 = .ok (.bipush 60, 2) := by decide +kernel
theorem dX9_copies_14 : decode cX9_copies 14 = .ok (.iload_n 2, 1) := by decide +kernel
theorem dX9_copies_15 : decode cX9_copies 15 = .ok (.imul, 1) := by decide +kernel
theorem dX9_copies_16 : decode cX9_copies 16 = .ok (.iload_n 3, 1) := by decide +kernel
theorem dX9_copies_17 : decode cX9_copies 17 = .ok (.iadd, 1) := by decide +kernel
theorem dX9_copies_18 : decode cX9_copies 18 = .ok (.aload_n 0, 1) := by decide +kernel
theorem dX9_copies_19 : decode cX9_copies 19 = .ok (.getfield 7, 3) := by decide +kernel
theorem dX9_copies_22 : decode cX9_copies 22 = .ok (.bipush 60, 2) := by decide +kernel
theorem dX9_copies_24 : decode cX9_copies 24 = .ok (.iload_n 1, 1) := by decide +kernel
theorem dX9_copies_25 : decode cX9_copies 25 = .ok (.imul, 1) := by decide +kernel
theorem dX9_copies_26 : decode cX9_copies 26 = .ok (.iload_n 3, 1) := by decide +kernel
theorem dX9_copies_27 : decode cX9_copies 27 = .ok (.iadd, 1) := by decide +kernel
theorem dX9_copies_28 : decode cX9_copies 28 = .ok (.iaload, 1) := by decide +kernel
theorem dX9_copies_29 : decode cX9_copies 29 = .ok (.iastore, 1) := by decide +kernel
theorem dX9_copies_30 : decode cX9_copies 30 = .ok (.iinc 3 1, 3) := by decide +kernel
theorem dX9_copies_33 : decode cX9_copies 33 = .ok (.goto (-31), 3) := by decide +kernel
theorem dX9_copies_36 : decode cX9_copies 36 = .ok (.aload_n 0, 1) := by decide +kernel
theorem dX9_copies_37 : decode cX9_copies 37 = .ok (.getfield 13, 3) := by decide +kernel
theorem dX9_copies_40 : decode cX9_copies 40 = .ok (.iload_n 2, 1) := by decide +kernel
theorem dX9_copies_41 : decode cX9_copies 41 = .ok (.aload_n 0, 1) := by decide +kernel
theorem dX9_copies_42 : decode cX9_copies 42 = .ok (.getfield 13, 3) := by decide +kernel
theorem dX9_copies_45 : decode cX9_copies 45 = .ok (.iload_n 1, 1) := by decide +kernel
theorem dX9_copies_46 : decode cX9_copies 46 = .ok (.iaload, 1) := by decide +kernel
theorem dX9_copies_47 : decode cX9_copies 47 = .ok (.iastore, 1) := by decide +kernel
theorem dX9_copies_48 : decode cX9_copies 48 = .ok (.aload_n 0, 1) := by decide +kernel
theorem dX9_copies_49 : decode cX9_copies 49 = .ok (.getfield 13, 3) := by decide +kernel
theorem dX9_copies_52 : decode cX9_copies 52 = .ok (.iload_n 2, 1) := by decide +kernel
theorem dX9_copies_53 : decode cX9_copies 53 = .ok (.iconst 1, 1) := by decide +kernel
theorem dX9_copies_54 : decode cX9_copies 54 = .ok (.iadd, 1) := by decide +kernel
theorem dX9_copies_55 : decode cX9_copies 55 = .ok (.aload_n 0, 1) := by decide +kernel
theorem dX9_copies_56 : decode cX9_copies 56 = .ok (.getfield 13, 3) := by decide +kernel
theorem dX9_copies_59 : decode cX9_copies 59 = .ok (.iload_n 1, 1) := by decide +kernel
theorem dX9_copies_60 : decode cX9_copies 60 = .ok (.iconst 1, 1) := by decide +kernel
theorem dX9_copies_61 : decode cX9_copies 61 = .ok (.iadd, 1) := by decide +kernel
theorem dX9_copies_62 : decode cX9_copies 62 = .ok (.iaload, 1) := by decide +kernel
theorem dX9_copies_63 : decode cX9_copies 63 = .ok (.iastore, 1) := by decide +kernel
theorem dX9_copies_64 : decode cX9_copies 64 = .ok (.return_, 1) := by decide +kernel
theorem dX9_plans_0 : decode cX9_plans 0 = .ok (.aload_n 0, 1) := by decide +kernel
theorem dX9_plans_1 : decode cX9_plans 1 = .ok (.getfield 71, 3) := by decide +kernel
theorem dX9_plans_4 : decode cX9_plans 4 = .ok (.bipush 40, 2) := by decide +kernel
theorem dX9_plans_6 : decode cX9_plans 6 = .ok (.if_icmp .eq 14, 3) := by decide +kernel
theorem dX9_plans_9 : decode cX9_plans 9 = .ok (.aload_n 0, 1) := by decide +kernel
theorem dX9_plans_10 : decode cX9_plans 10 = .ok (.getfield 13, 3) := by decide +kernel
theorem dX9_plans_13 : decode cX9_plans 13 = .ok (.iload_n 1, 1) := by decide +kernel
theorem dX9_plans_14 : decode cX9_plans 14 = .ok (.iaload, 1) := by decide +kernel
theorem dX9_plans_15 : decode cX9_plans 15 = .ok (.bipush 60, 2) := by decide +kernel
theorem dX9_plans_17 : decode cX9_plans 17 = .ok (.if_icmp .ne 9, 3) := by decide +kernel
theorem dX9_plans_20 : decode cX9_plans 20 = .ok (.aload_n 0, 1) := by decide +kernel
theorem dX9_plans_21 : decode cX9_plans 21 = .ok (.iconst 2, 1) := by decide +kernel
theorem dX9_plans_22 : decode cX9_plans 22 = .ok (.invokevirtual 74, 3) := by decide +kernel
theorem dX9_plans_25 : decode cX9_plans 25 = .ok (.ireturn, 1) := by decide +kernel
theorem dX9_plans_26 : decode cX9_plans 26 = .ok (.aload_n 0, 1) := by decide +kernel
theorem dX9_plans_27 : decode cX9_plans 27 = .ok (.iconst 0, 1) := by decide +kernel
theorem dX9_plans_28 : decode cX9_plans 28 = .ok (.putfield 64, 3) := by decide +kernel
theorem dX9_plans_31 : decode cX9_plans 31 = .ok (.aload_n 0, 1) := by decide +kernel
theorem dX9_plans_32 : decode cX9_plans 32 = .ok (.iload_n 1, 1) := by decide +kernel
theorem dX9_plans_33 : decode cX9_plans 33 = .ok (.iload_n 2, 1) := by decide +kernel
theorem dX9_plans_34 : decode cX9_plans 34 = .ok (.invokevirtual 78, 3) := by decide +kernel
theorem dX9_plans_37 : decode cX9_plans 37 = .ok (.aload_n 0, 1) := by decide +kernel
theorem dX9_plans_38 : decode cX9_plans 38 = .ok (.dup, 1) := by decide +kernel
theorem dX9_plans_39 : decode cX9_plans 39 = .ok (.getfield 71, 3) := by decide +kernel
theorem dX9_plans_42 : decode cX9_plans 42 = .ok (.iconst 1, 1) := by decide +kernel
theorem dX9_plans_43 : decode cX9_plans 43 = .ok (.iadd, 1) := by decide +kernel
theorem dX9_plans_44 : decode cX9_plans 44 = .ok (.putfield 71, 3) := by decide +kernel
theorem dX9_plans_47 : decode cX9_plans 47 = .ok (.aload_n 0, 1) := by decide +kernel
theorem dX9_plans_48 : decode cX9_plans 48 = .ok (.getfield 71, 3) := by decide +kernel
theorem dX9_plans_51 : decode cX9_plans 51 = .ok (.ireturn, 1) := by decide +kernel
theorem dX9_unplans_0 : decode cX9_unplans 0 = .ok (.aload_n 0, 1) := by decide +kernel
theorem dX9_unplans_1 : decode cX9_unplans 1 = .ok (.getfield 71, 3) := by decide +kernel
theorem dX9_unplans_4 : decode cX9_unplans 4 = .ok (.bipush 40, 2) := by decide +kernel
theorem dX9_unplans_6 : decode cX9_unplans 6 = .ok (.if_icmp .ne 9, 3) := by decide +kernel
theorem dX9_unplans_9 : decode cX9_unplans 9 = .ok (.aload_n 0, 1) := by decide +kernel
theorem dX9_unplans_10 : decode cX9_unplans 10 = .ok (.iconst 2, 1) := by decide +kernel
theorem dX9_unplans_11 : decode cX9_unplans 11 = .ok (.invokevirtual 74, 3) := by decide +kernel
theorem dX9_unplans_14 : decode cX9_unplans 14 = .ok (.ireturn, 1) := by decide +kernel
theorem dX9_unplans_15 : decode cX9_unplans 15 = .ok (.aload_n 0, 1) := by decide +kernel
theorem dX9_unplans_16 : decode cX9_unplans 16 = .ok (.iload_n 1, 1) := by decide +kernel
theorem dX9_unplans_17 : decode cX9_unplans 17 = .ok (.iload_n 2, 1) := by decide +kernel
theorem dX9_unplans_18 : decode cX9_unplans 18 = .ok (.invokevirtual 82, 3) := by decide +kernel
theorem dX9_unplans_21 : decode cX9_unplans 21 = .ok (.ifCond .ne 9, 3) := by decide +kernel
theorem dX9_unplans_24 : decode cX9_unplans 24 = .ok (.aload_n 0, 1) := by decide +kernel
theorem dX9_unplans_25 : decode cX9_unplans 25 = .ok (.iconst 3, 1) := by decide +kernel
theorem dX9_unplans_26 : decode cX9_unplans 26 = .ok (.invokevirtual 74, 3) := by decide +kernel
theorem dX9_unplans_29 : decode cX9_unplans 29 = .ok (.ireturn, 1) := by decide +kernel
theorem dX9_unplans_30 : decode cX9_unplans 30 = .ok (.aload_n 0, 1) := by decide +kernel
theorem dX9_unplans_31 : decode cX9_unplans 31 = .ok (.iconst 0, 1) := by decide +kernel
theorem dX9_unplans_32 : decode cX9_unplans 32 = .ok (.putfield 64, 3) := by decide +kernel
theorem dX9_unplans_35 : decode cX9_unplans 35 = .ok (.aload_n 0, 1) := by decide +kernel
theorem dX9_unplans_36 : decode cX9_unplans 36 = .ok (.iload_n 1, 1) := by decide +kernel
theorem dX9_unplans_37 : decode cX9_unplans 37 = .ok (.iload_n 2, 1) := by decide +kernel
theorem dX9_unplans_38 : decode cX9_unplans 38 = .ok (.invokevirtual 86, 3) := by decide +kernel
theorem dX9_unplans_41 : decode cX9_unplans 41 = .ok (.aload_n 0, 1) := by decide +kernel
theorem dX9_unplans_42 : decode cX9_unplans 42 = .ok (.dup, 1) := by decide +kernel
theorem dX9_unplans_43 : decode cX9_unplans 43 = .ok (.getfield 71, 3) := by decide +kernel
theorem dX9_unplans_46 : decode cX9_unplans 46 = .ok (.iconst 1, 1) := by decide +kernel
theorem dX9_unplans_47 : decode cX9_unplans 47 = .ok (.iadd, 1) := by decide +kernel
theorem dX9_unplans_48 : decode cX9_unplans 48 = .ok (.putfield 71, 3) := by decide +kernel
theorem dX9_unplans_51 : decode cX9_unplans 51 = .ok (.aload_n 0, 1) := by decide +kernel
theorem dX9_unplans_52 : decode cX9_unplans 52 = .ok (.getfield 71, 3) := by decide +kernel
theorem dX9_unplans_55 : decode cX9_unplans 55 = .ok (.ireturn, 1) := by decide +kernel
theorem dX9_insertLeft_0 : decode cX9_insertLeft 0 = .ok (.iload_n 1, 1) := by decide +kernel
theorem dX9_insertLeft_1 : decode cX9_insertLeft 1 = .ok (.iload_n 2, 1) := by decide +kernel
theorem dX9_insertLeft_2 : decode cX9_insertLeft 2 = .ok (.iload_n 3, 1) := by decide +kernel
theorem dX9_insertLeft_3 : decode cX9_insertLeft 3 = .ok (.invokestatic 89, 3) := by decide +kernel
theorem dX9_insertLeft_6 : decode cX9_insertLeft 6 = .ok (.ifCond .eq 17, 3) := by decide +kernel
theorem dX9_insertLeft_9 : decode cX9_insertLeft 9 = .ok (.aload_n 0, 1) := by decide +kernel
theorem dX9_insertLeft_10 : decode cX9_insertLeft 10 = .ok (.iconst 2, 1) := by decide +kernel
theorem dX9_insertLeft_11 : decode cX9_insertLeft 11 = .ok (.iload_n 1, 1) := by decide +kernel
theorem dX9_insertLeft_12 : decode cX9_insertLeft 12 = .ok (.iload_n 2, 1) := by decide +kernel
theorem dX9_insertLeft_13 : decode cX9_insertLeft 13 = .ok (.iload_n 3, 1) := by decide +kernel
theorem dX9_insertLeft_14 : decode cX9_insertLeft 14 = .ok (.invokestatic 92, 3) := by decide +kernel
theorem dX9_insertLeft_17 : decode cX9_insertLeft 17 = .ok (.invokevirtual 96, 3) := by decide +kernel
theorem dX9_insertLeft_20 : decode cX9_insertLeft 20 = .ok (.goto 8, 3) := by decide +kernel
theorem dX9_insertLeft_23 : decode cX9_insertLeft 23 = .ok (.aload_n 0, 1) := by decide +kernel
theorem dX9_insertLeft_24 : decode cX9_insertLeft 24 = .ok (.iconst 1, 1) := by decide +kernel
theorem dX9_insertLeft_25 : decode cX9_insertLeft 25 = .ok (.invokevirtual 74, 3) := by decide +kernel
theorem dX9_insertLeft_28 : decode cX9_insertLeft 28 = .ok (.ireturn, 1) := by decide +kernel
theorem dX9_deleteLeft_0 : decode cX9_deleteLeft 0 = .ok (.iload_n 1, 1) := by decide +kernel
theorem dX9_deleteLeft_1 : decode cX9_deleteLeft 1 = .ok (.iload_n 2, 1) := by decide +kernel
theorem dX9_deleteLeft_2 : decode cX9_deleteLeft 2 = .ok (.iload_n 3, 1) := by decide +kernel
theorem dX9_deleteLeft_3 : decode cX9_deleteLeft 3 = .ok (.invokestatic 89, 3) := by decide +kernel
theorem dX9_deleteLeft_6 : decode cX9_deleteLeft 6 = .ok (.ifCond .eq 17, 3) := by decide +kernel
theorem dX9_deleteLeft_9 : decode cX9_deleteLeft 9 = .ok (.aload_n 0, 1) := by decide +kernel
theorem dX9_deleteLeft_10 : decode cX9_deleteLeft 10 = .ok (.iconst 2, 1) := by decide +kernel
theorem dX9_deleteLeft_11 : decode cX9_deleteLeft 11 = .ok (.iload_n 1, 1) := by decide +kernel
theorem dX9_deleteLeft_12 : decode cX9_deleteLeft 12 = .ok (.iload_n 2, 1) := by decide +kernel
theorem dX9_deleteLeft_13 : decode cX9_deleteLeft 13 = .ok (.iload_n 3, 1) := by decide +kernel
theorem dX9_deleteLeft_14 : decode cX9_deleteLeft 14 = .ok (.invokestatic 92, 3) := by decide +kernel
theorem dX9_deleteLeft_17 : decode cX9_deleteLeft 17 = .ok (.invokevirtual 99, 3) := by decide +kernel
theorem dX9_deleteLeft_20 : decode cX9_deleteLeft 20 = .ok (.goto 8, 3) := by decide +kernel
theorem dX9_deleteLeft_23 : decode cX9_deleteLeft 23 = .ok (.aload_n 0, 1) := by decide +kernel
theorem dX9_deleteLeft_24 : decode cX9_deleteLeft 24 = .ok (.iconst 1, 1) := by decide +kernel
theorem dX9_deleteLeft_25 : decode cX9_deleteLeft 25 = .ok (.invokevirtual 74, 3) := by decide +kernel
theorem dX9_deleteLeft_28 : decode cX9_deleteLeft 28 = .ok (.ireturn, 1) := by decide +kernel
theorem dX9_insertRight_0 : decode cX9_insertRight 0 = .ok (.iload_n 1, 1) := by decide +kernel
theorem dX9_insertRight_1 : decode cX9_insertRight 1 = .ok (.iload_n 2, 1) := by decide +kernel
theorem dX9_insertRight_2 : decode cX9_insertRight 2 = .ok (.invokestatic 102, 3) := by decide +kernel
theorem dX9_insertRight_5 : decode cX9_insertRight 5 = .ok (.ifCond .eq 16, 3) := by decide +kernel
theorem dX9_insertRight_8 : decode cX9_insertRight 8 = .ok (.aload_n 0, 1) := by decide +kernel
theorem dX9_insertRight_9 : decode cX9_insertRight 9 = .ok (.iconst 3, 1) := by decide +kernel
theorem dX9_insertRight_10 : decode cX9_insertRight 10 = .ok (.iload_n 1, 1) := by decide +kernel
theorem dX9_insertRight_11 : decode cX9_insertRight 11 = .ok (.iload_n 2, 1) := by decide +kernel
theorem dX9_insertRight_12 : decode cX9_insertRight 12 = .ok (.invokestatic 106, 3) := by decide +kernel
theorem dX9_insertRight_15 : decode cX9_insertRight 15 = .ok (.invokevirtual 96, 3) := by decide +kernel
theorem dX9_insertRight_18 : decode cX9_insertRight 18 = .ok (.goto 8, 3) := by decide +kernel
theorem dX9_insertRight_21 : decode cX9_insertRight 21 = .ok (.aload_n 0, 1) := by decide +kernel
theorem dX9_insertRight_22 : decode cX9_insertRight 22 = .ok (.iconst 1, 1) := by decide +kernel
theorem dX9_insertRight_23 : decode cX9_insertRight 23 = .ok (.invokevirtual 74, 3) := by decide +kernel
theorem dX9_insertRight_26 : decode cX9_insertRight 26 = .ok (.ireturn, 1) := by decide +kernel
theorem dX9_deleteRight_0 : decode cX9_deleteRight 0 = .ok (.iload_n 1, 1) := by decide +kernel
theorem dX9_deleteRight_1 : decode cX9_deleteRight 1 = .ok (.iload_n 2, 1) := by decide +kernel
theorem dX9_deleteRight_2 : decode cX9_deleteRight 2 = .ok (.invokestatic 102, 3) := by decide +kernel
theorem dX9_deleteRight_5 : decode cX9_deleteRight 5 = .ok (.ifCond .eq 16, 3) := by decide +kernel
theorem dX9_deleteRight_8 : decode cX9_deleteRight 8 = .ok (.aload_n 0, 1) := by decide +kernel
theorem dX9_deleteRight_9 : decode cX9_deleteRight 9 = .ok (.iconst 3, 1) := by decide +kernel
theorem dX9_deleteRight_10 : decode cX9_deleteRight 10 = .ok (.iload_n 1, 1) := by decide +kernel
theorem dX9_deleteRight_11 : decode cX9_deleteRight 11 = .ok (.iload_n 2, 1) := by decide +kernel
theorem dX9_deleteRight_12 : decode cX9_deleteRight 12 = .ok (.invokestatic 106, 3) := by decide +kernel
theorem dX9_deleteRight_15 : decode cX9_deleteRight 15 = .ok (.invokevirtual 99, 3) := by decide +kernel
theorem dX9_deleteRight_18 : decode cX9_deleteRight 18 = .ok (.goto 8, 3) := by decide +kernel
theorem dX9_deleteRight_21 : decode cX9_deleteRight 21 = .ok (.aload_n 0, 1) := by decide +kernel
theorem dX9_deleteRight_22 : decode cX9_deleteRight 22 = .ok (.iconst 1, 1) := by decide +kernel
theorem dX9_deleteRight_23 : decode cX9_deleteRight 23 = .ok (.invokevirtual 74, 3) := by decide +kernel
theorem dX9_deleteRight_26 : decode cX9_deleteRight 26 = .ok (.ireturn, 1) := by decide +kernel
theorem dX9_batchSize_0 : decode cX9_batchSize 0 = .ok (.aload_n 0, 1) := by decide +kernel
theorem dX9_batchSize_1 : decode cX9_batchSize 1 = .ok (.iconst 0, 1) := by decide +kernel
theorem dX9_batchSize_2 : decode cX9_batchSize 2 = .ok (.putfield 64, 3) := by decide +kernel
theorem dX9_batchSize_5 : decode cX9_batchSize 5 = .ok (.aload_n 0, 1) := by decide +kernel
theorem dX9_batchSize_6 : decode cX9_batchSize 6 = .ok (.getfield 71, 3) := by decide +kernel
theorem dX9_batchSize_9 : decode cX9_batchSize 9 = .ok (.ireturn, 1) := by decide +kernel
theorem dX9_empties_0 : decode cX9_empties 0 = .ok (.aload_n 0, 1) := by decide +kernel
theorem dX9_empties_1 : decode cX9_empties 1 = .ok (.iconst 0, 1) := by decide +kernel
theorem dX9_empties_2 : decode cX9_empties 2 = .ok (.putfield 71, 3) := by decide +kernel
theorem dX9_empties_5 : decode cX9_empties 5 = .ok (.aload_n 0, 1) := by decide +kernel
theorem dX9_empties_6 : decode cX9_empties 6 = .ok (.iconst 0, 1) := by decide +kernel
theorem dX9_empties_7 : decode cX9_empties 7 = .ok (.iconst 2, 1) := by decide +kernel
theorem dX9_empties_8 : decode cX9_empties 8 = .ok (.invokevirtual 109, 3) := by decide +kernel
theorem dX9_empties_11 : decode cX9_empties 11 = .ok (.return_, 1) := by decide +kernel
theorem dX9_discard_0 : decode cX9_discard 0 = .ok (.aload_n 0, 1) := by decide +kernel
theorem dX9_discard_1 : decode cX9_discard 1 = .ok (.iconst 0, 1) := by decide +kernel
theorem dX9_discard_2 : decode cX9_discard 2 = .ok (.putfield 64, 3) := by decide +kernel
theorem dX9_discard_5 : decode cX9_discard 5 = .ok (.aload_n 0, 1) := by decide +kernel
theorem dX9_discard_6 : decode cX9_discard 6 = .ok (.getfield 71, 3) := by decide +kernel
theorem dX9_discard_9 : decode cX9_discard 9 = .ok (.istore_n 1, 1) := by decide +kernel
theorem dX9_discard_10 : decode cX9_discard 10 = .ok (.aload_n 0, 1) := by decide +kernel
theorem dX9_discard_11 : decode cX9_discard 11 = .ok (.invokevirtual 112, 3) := by decide +kernel
theorem dX9_discard_14 : decode cX9_discard 14 = .ok (.iload_n 1, 1) := by decide +kernel
theorem dX9_discard_15 : decode cX9_discard 15 = .ok (.ireturn, 1) := by decide +kernel
theorem dX9_apply_0 : decode cX9_apply 0 = .ok (.aload_n 0, 1) := by decide +kernel
theorem dX9_apply_1 : decode cX9_apply 1 = .ok (.iconst 0, 1) := by decide +kernel
theorem dX9_apply_2 : decode cX9_apply 2 = .ok (.putfield 64, 3) := by decide +kernel
theorem dX9_apply_5 : decode cX9_apply 5 = .ok (.iconst 3, 1) := by decide +kernel
theorem dX9_apply_6 : decode cX9_apply 6 = .ok (.istore_n 1, 1) := by decide +kernel
theorem dX9_apply_7 : decode cX9_apply 7 = .ok (.iload_n 1, 1) := by decide +kernel
theorem dX9_apply_8 : decode cX9_apply 8 = .ok (.ifCond .le 24, 3) := by decide +kernel
theorem dX9_apply_11 : decode cX9_apply 11 = .ok (.aload_n 0, 1) := by decide +kernel
theorem dX9_apply_12 : decode cX9_apply 12 = .ok (.iconst 4, 1) := by decide +kernel
theorem dX9_apply_13 : decode cX9_apply 13 = .ok (.iconst 2, 1) := by decide +kernel
theorem dX9_apply_14 : decode cX9_apply 14 = .ok (.iload_n 1, 1) := by decide +kernel
theorem dX9_apply_15 : decode cX9_apply 15 = .ok (.imul, 1) := by decide +kernel
theorem dX9_apply_16 : decode cX9_apply 16 = .ok (.iadd, 1) := by decide +kernel
theorem dX9_apply_17 : decode cX9_apply 17 = .ok (.bipush 6, 2) := by decide +kernel
theorem dX9_apply_19 : decode cX9_apply 19 = .ok (.iconst 2, 1) := by decide +kernel
theorem dX9_apply_20 : decode cX9_apply 20 = .ok (.iload_n 1, 1) := by decide +kernel
theorem dX9_apply_21 : decode cX9_apply 21 = .ok (.imul, 1) := by decide +kernel
theorem dX9_apply_22 : decode cX9_apply 22 = .ok (.iadd, 1) := by decide +kernel
theorem dX9_apply_23 : decode cX9_apply 23 = .ok (.invokevirtual 109, 3) := by decide +kernel
theorem dX9_apply_26 : decode cX9_apply 26 = .ok (.iinc 1 (-1), 3) := by decide +kernel
theorem dX9_apply_29 : decode cX9_apply 29 = .ok (.goto (-22), 3) := by decide +kernel
theorem dX9_apply_32 : decode cX9_apply 32 = .ok (.aload_n 0, 1) := by decide +kernel
theorem dX9_apply_33 : decode cX9_apply 33 = .ok (.iconst 0, 1) := by decide +kernel
theorem dX9_apply_34 : decode cX9_apply 34 = .ok (.bipush 6, 2) := by decide +kernel
theorem dX9_apply_36 : decode cX9_apply 36 = .ok (.invokevirtual 109, 3) := by decide +kernel
theorem dX9_apply_39 : decode cX9_apply 39 = .ok (.aload_n 0, 1) := by decide +kernel
theorem dX9_apply_40 : decode cX9_apply 40 = .ok (.getfield 115, 3) := by decide +kernel
theorem dX9_apply_43 : decode cX9_apply 43 = .ok (.iconst 4, 1) := by decide +kernel
theorem dX9_apply_44 : decode cX9_apply 44 = .ok (.if_icmp .ge 13, 3) := by decide +kernel
theorem dX9_apply_47 : decode cX9_apply 47 = .ok (.aload_n 0, 1) := by decide +kernel
theorem dX9_apply_48 : decode cX9_apply 48 = .ok (.dup, 1) := by decide +kernel
theorem dX9_apply_49 : decode cX9_apply 49 = .ok (.getfield 115, 3) := by decide +kernel
theorem dX9_apply_52 : decode cX9_apply 52 = .ok (.iconst 1, 1) := by decide +kernel
theorem dX9_apply_53 : decode cX9_apply 53 = .ok (.iadd, 1) := by decide +kernel
theorem dX9_apply_54 : decode cX9_apply 54 = .ok (.putfield 115, 3) := by decide +kernel
theorem dX9_apply_57 : decode cX9_apply 57 = .ok (.aload_n 0, 1) := by decide +kernel
theorem dX9_apply_58 : decode cX9_apply 58 = .ok (.iconst 0, 1) := by decide +kernel
theorem dX9_apply_59 : decode cX9_apply 59 = .ok (.iconst 4, 1) := by decide +kernel
theorem dX9_apply_60 : decode cX9_apply 60 = .ok (.invokevirtual 109, 3) := by decide +kernel
theorem dX9_apply_63 : decode cX9_apply 63 = .ok (.aload_n 0, 1) := by decide +kernel
theorem dX9_apply_64 : decode cX9_apply 64 = .ok (.iconst 2, 1) := by decide +kernel
theorem dX9_apply_65 : decode cX9_apply 65 = .ok (.iconst 0, 1) := by decide +kernel
theorem dX9_apply_66 : decode cX9_apply 66 = .ok (.invokevirtual 109, 3) := by decide +kernel
theorem dX9_apply_69 : decode cX9_apply 69 = .ok (.aload_n 0, 1) := by decide +kernel
theorem dX9_apply_70 : decode cX9_apply 70 = .ok (.iconst 0, 1) := by decide +kernel
theorem dX9_apply_71 : decode cX9_apply 71 = .ok (.putfield 71, 3) := by decide +kernel
theorem dX9_apply_74 : decode cX9_apply 74 = .ok (.aload_n 0, 1) := by decide +kernel
theorem dX9_apply_75 : decode cX9_apply 75 = .ok (.iconst 1, 1) := by decide +kernel
theorem dX9_apply_76 : decode cX9_apply 76 = .ok (.invokevirtual 118, 3) := by decide +kernel
theorem dX9_apply_79 : decode cX9_apply 79 = .ok (.ireturn, 1) := by decide +kernel
theorem dX9_rollback_0 : decode cX9_rollback 0 = .ok (.aload_n 0, 1) := by decide +kernel
theorem dX9_rollback_1 : decode cX9_rollback 1 = .ok (.getfield 115, 3) := by decide +kernel
theorem dX9_rollback_4 : decode cX9_rollback 4 = .ok (.ifCond .ne 9, 3) := by decide +kernel
theorem dX9_rollback_7 : decode cX9_rollback 7 = .ok (.aload_n 0, 1) := by decide +kernel
theorem dX9_rollback_8 : decode cX9_rollback 8 = .ok (.iconst 1, 1) := by decide +kernel
theorem dX9_rollback_9 : decode cX9_rollback 9 = .ok (.invokevirtual 74, 3) := by decide +kernel
theorem dX9_rollback_12 : decode cX9_rollback 12 = .ok (.ireturn, 1) := by decide +kernel
theorem dX9_rollback_13 : decode cX9_rollback 13 = .ok (.aload_n 0, 1) := by decide +kernel
theorem dX9_rollback_14 : decode cX9_rollback 14 = .ok (.iconst 0, 1) := by decide +kernel
theorem dX9_rollback_15 : decode cX9_rollback 15 = .ok (.putfield 64, 3) := by decide +kernel
theorem dX9_rollback_18 : decode cX9_rollback 18 = .ok (.aload_n 0, 1) := by decide +kernel
theorem dX9_rollback_19 : decode cX9_rollback 19 = .ok (.iconst 0, 1) := by decide +kernel
theorem dX9_rollback_20 : decode cX9_rollback 20 = .ok (.iconst 4, 1) := by decide +kernel
theorem dX9_rollback_21 : decode cX9_rollback 21 = .ok (.invokevirtual 109, 3) := by decide +kernel
theorem dX9_rollback_24 : decode cX9_rollback 24 = .ok (.aload_n 0, 1) := by decide +kernel
theorem dX9_rollback_25 : decode cX9_rollback 25 = .ok (.bipush 6, 2) := by decide +kernel
theorem dX9_rollback_27 : decode cX9_rollback 27 = .ok (.iconst 0, 1) := by decide +kernel
theorem dX9_rollback_28 : decode cX9_rollback 28 = .ok (.invokevirtual 109, 3) := by decide +kernel
theorem dX9_rollback_31 : decode cX9_rollback 31 = .ok (.iconst 0, 1) := by decide +kernel
theorem dX9_rollback_32 : decode cX9_rollback 32 = .ok (.istore_n 1, 1) := by decide +kernel
theorem dX9_rollback_33 : decode cX9_rollback 33 = .ok (.iload_n 1, 1) := by decide +kernel
theorem dX9_rollback_34 : decode cX9_rollback 34 = .ok (.iconst 3, 1) := by decide +kernel
theorem dX9_rollback_35 : decode cX9_rollback 35 = .ok (.if_icmp .ge 25, 3) := by decide +kernel
theorem dX9_rollback_38 : decode cX9_rollback 38 = .ok (.aload_n 0, 1) := by decide +kernel
theorem dX9_rollback_39 : decode cX9_rollback 39 = .ok (.bipush 8, 2) := by decide +kernel
theorem dX9_rollback_41 : decode cX9_rollback 41 = .ok (.iconst 2, 1) := by decide +kernel
theorem dX9_rollback_42 : decode cX9_rollback 42 = .ok (.iload_n 1, 1) := by decide +kernel
theorem dX9_rollback_43 : decode cX9_rollback 43 = .ok (.imul, 1) := by decide +kernel
theorem dX9_rollback_44 : decode cX9_rollback 44 = .ok (.iadd, 1) := by decide +kernel
theorem dX9_rollback_45 : decode cX9_rollback 45 = .ok (.bipush 6, 2) := by decide +kernel
theorem dX9_rollback_47 : decode cX9_rollback 47 = .ok (.iconst 2, 1) := by decide +kernel
theorem dX9_rollback_48 : decode cX9_rollback 48 = .ok (.iload_n 1, 1) := by decide +kernel
theorem dX9_rollback_49 : decode cX9_rollback 49 = .ok (.imul, 1) := by decide +kernel
theorem dX9_rollback_50 : decode cX9_rollback 50 = .ok (.iadd, 1) := by decide +kernel
theorem dX9_rollback_51 : decode cX9_rollback 51 = .ok (.invokevirtual 109, 3) := by decide +kernel
theorem dX9_rollback_54 : decode cX9_rollback 54 = .ok (.iinc 1 1, 3) := by decide +kernel
theorem dX9_rollback_57 : decode cX9_rollback 57 = .ok (.goto (-24), 3) := by decide +kernel
theorem dX9_rollback_60 : decode cX9_rollback 60 = .ok (.aload_n 0, 1) := by decide +kernel
theorem dX9_rollback_61 : decode cX9_rollback 61 = .ok (.dup, 1) := by decide +kernel
theorem dX9_rollback_62 : decode cX9_rollback 62 = .ok (.getfield 115, 3) := by decide +kernel
theorem dX9_rollback_65 : decode cX9_rollback 65 = .ok (.iconst 1, 1) := by decide +kernel
theorem dX9_rollback_66 : decode cX9_rollback 66 = .ok (.isub, 1) := by decide +kernel
theorem dX9_rollback_67 : decode cX9_rollback 67 = .ok (.putfield 115, 3) := by decide +kernel
theorem dX9_rollback_70 : decode cX9_rollback 70 = .ok (.aload_n 0, 1) := by decide +kernel
theorem dX9_rollback_71 : decode cX9_rollback 71 = .ok (.invokevirtual 112, 3) := by decide +kernel
theorem dX9_rollback_74 : decode cX9_rollback 74 = .ok (.aload_n 0, 1) := by decide +kernel
theorem dX9_rollback_75 : decode cX9_rollback 75 = .ok (.iconst 1, 1) := by decide +kernel
theorem dX9_rollback_76 : decode cX9_rollback 76 = .ok (.invokevirtual 118, 3) := by decide +kernel
theorem dX9_rollback_79 : decode cX9_rollback 79 = .ok (.ireturn, 1) := by decide +kernel
theorem dX9_leftCount_0 : decode cX9_leftCount 0 = .ok (.iload_n 1, 1) := by decide +kernel
theorem dX9_leftCount_1 : decode cX9_leftCount 1 = .ok (.iload_n 2, 1) := by decide +kernel
theorem dX9_leftCount_2 : decode cX9_leftCount 2 = .ok (.iload_n 3, 1) := by decide +kernel
theorem dX9_leftCount_3 : decode cX9_leftCount 3 = .ok (.invokestatic 89, 3) := by decide +kernel
theorem dX9_leftCount_6 : decode cX9_leftCount 6 = .ok (.ifCond .ne 9, 3) := by decide +kernel
theorem dX9_leftCount_9 : decode cX9_leftCount 9 = .ok (.aload_n 0, 1) := by decide +kernel
theorem dX9_leftCount_10 : decode cX9_leftCount 10 = .ok (.iconst 1, 1) := by decide +kernel
theorem dX9_leftCount_11 : decode cX9_leftCount 11 = .ok (.invokevirtual 74, 3) := by decide +kernel
theorem dX9_leftCount_14 : decode cX9_leftCount 14 = .ok (.ireturn, 1) := by decide +kernel
theorem dX9_leftCount_15 : decode cX9_leftCount 15 = .ok (.aload_n 0, 1) := by decide +kernel
theorem dX9_leftCount_16 : decode cX9_leftCount 16 = .ok (.iconst 0, 1) := by decide +kernel
theorem dX9_leftCount_17 : decode cX9_leftCount 17 = .ok (.putfield 64, 3) := by decide +kernel
theorem dX9_leftCount_20 : decode cX9_leftCount 20 = .ok (.aload_n 0, 1) := by decide +kernel
theorem dX9_leftCount_21 : decode cX9_leftCount 21 = .ok (.iconst 0, 1) := by decide +kernel
theorem dX9_leftCount_22 : decode cX9_leftCount 22 = .ok (.iload_n 1, 1) := by decide +kernel
theorem dX9_leftCount_23 : decode cX9_leftCount 23 = .ok (.iload_n 2, 1) := by decide +kernel
theorem dX9_leftCount_24 : decode cX9_leftCount 24 = .ok (.iload_n 3, 1) := by decide +kernel
theorem dX9_leftCount_25 : decode cX9_leftCount 25 = .ok (.invokestatic 92, 3) := by decide +kernel
theorem dX9_leftCount_28 : decode cX9_leftCount 28 = .ok (.invokevirtual 82, 3) := by decide +kernel
theorem dX9_leftCount_31 : decode cX9_leftCount 31 = .ok (.ireturn, 1) := by decide +kernel
theorem dX9_rightCount_0 : decode cX9_rightCount 0 = .ok (.iload_n 1, 1) := by decide +kernel
theorem dX9_rightCount_1 : decode cX9_rightCount 1 = .ok (.iload_n 2, 1) := by decide +kernel
theorem dX9_rightCount_2 : decode cX9_rightCount 2 = .ok (.invokestatic 102, 3) := by decide +kernel
theorem dX9_rightCount_5 : decode cX9_rightCount 5 = .ok (.ifCond .ne 9, 3) := by decide +kernel
theorem dX9_rightCount_8 : decode cX9_rightCount 8 = .ok (.aload_n 0, 1) := by decide +kernel
