theorem dX0_init_0 : decode cX0_init 0 = .ok (.aload_n 0, 1) := by decide +kernel
theorem dX0_init_1 : decode cX0_init 1 = .ok (.invokespecial 1, 3) := by decide +kernel
theorem dX0_init_4 : decode cX0_init 4 = .ok (.aload_n 0, 1) := by decide +kernel
theorem dX0_init_5 : decode cX0_init 5 = .ok (.iconst 0, 1) := by decide +kernel
theorem dX0_init_6 : decode cX0_init 6 = .ok (.putfield 7, 3) := by decide +kernel
theorem dX0_init_9 : decode cX0_init 9 = .ok (.aload_n 0, 1) := by decide +kernel
theorem dX0_init_10 : decode cX0_init 10 = .ok (.iconst 0, 1) := by decide +kernel
theorem dX0_init_11 : decode cX0_init 11 = .ok (.putfield 13, 3) := by decide +kernel
theorem dX0_init_14 : decode cX0_init 14 = .ok (.iload_n 1, 1) := by decide +kernel
theorem dX0_init_15 : decode cX0_init 15 = .ok (.ifCond .le 7, 3) := by decide +kernel
theorem dX0_init_18 : decode cX0_init 18 = .ok (.iload_n 1, 1) := by decide +kernel
theorem dX0_init_19 : decode cX0_init 19 = .ok (.goto 4, 3) := by decide +kernel
theorem dX0_init_22 : decode cX0_init 22 = .ok (.iconst 0, 1) := by decide +kernel
theorem dX0_init_23 : decode cX0_init 23 = .ok (.istore_n 2, 1) := by decide +kernel
theorem dX0_init_24 : decode cX0_init 24 = .ok (.aload_n 0, 1) := by decide +kernel
theorem dX0_init_25 : decode cX0_init 25 = .ok (.iload_n 2, 1) := by decide +kernel
theorem dX0_init_26 : decode cX0_init 26 = .ok (.newarray .int, 2) := by decide +kernel
theorem dX0_init_28 : decode cX0_init 28 = .ok (.putfield 16, 3) := by decide +kernel
theorem dX0_init_31 : decode cX0_init 31 = .ok (.aload_n 0, 1) := by decide +kernel
theorem dX0_init_32 : decode cX0_init 32 = .ok (.iload_n 2, 1) := by decide +kernel
theorem dX0_init_33 : decode cX0_init 33 = .ok (.newarray .int, 2) := by decide +kernel
theorem dX0_init_35 : decode cX0_init 35 = .ok (.putfield 20, 3) := by decide +kernel
theorem dX0_init_38 : decode cX0_init 38 = .ok (.return_, 1) := by decide +kernel
theorem dX0_size_0 : decode cX0_size 0 = .ok (.aload_n 0, 1) := by decide +kernel
theorem dX0_size_1 : decode cX0_size 1 = .ok (.getfield 7, 3) := by decide +kernel
theorem dX0_size_4 : decode cX0_size 4 = .ok (.ireturn, 1) := by decide +kernel
theorem dX0_total_0 : decode cX0_total 0 = .ok (.aload_n 0, 1) := by decide +kernel
theorem dX0_total_1 : decode cX0_total 1 = .ok (.getfield 13, 3) := by decide +kernel
theorem dX0_total_4 : decode cX0_total 4 = .ok (.ireturn, 1) := by decide +kernel
theorem dX0_codeAt_0 : decode cX0_codeAt 0 = .ok (.iload_n 1, 1) := by decide +kernel
theorem dX0_codeAt_1 : decode cX0_codeAt 1 = .ok (.ifCond .lt 29, 3) := by decide +kernel
theorem dX0_codeAt_4 : decode cX0_codeAt 4 = .ok (.iload_n 1, 1) := by decide +kernel
theorem dX0_codeAt_5 : decode cX0_codeAt 5 = .ok (.aload_n 0, 1) := by decide +kernel
theorem dX0_codeAt_6 : decode cX0_codeAt 6 = .ok (.getfield 7, 3) := by decide +kernel
theorem dX0_codeAt_9 : decode cX0_codeAt 9 = .ok (.if_icmp .ge 21, 3) := by decide +kernel
theorem dX0_codeAt_12 : decode cX0_codeAt 12 = .ok (.iload_n 1, 1) := by decide +kernel
theorem dX0_codeAt_13 : decode cX0_codeAt 13 = .ok (.aload_n 0, 1) := by decide +kernel
theorem dX0_codeAt_14 : decode cX0_codeAt 14 = .ok (.getfield 16, 3) := by decide +kernel
theorem dX0_codeAt_17 : decode cX0_codeAt 17 = .ok (.arraylength, 1) := by decide +kernel
theorem dX0_codeAt_18 : decode cX0_codeAt 18 = .ok (.if_icmp .ge 12, 3) := by decide +kernel
theorem dX0_codeAt_21 : decode cX0_codeAt 21 = .ok (.aload_n 0, 1) := by decide +kernel
theorem dX0_codeAt_22 : decode cX0_codeAt 22 = .ok (.getfield 16, 3) := by decide +kernel
theorem dX0_codeAt_25 : decode cX0_codeAt 25 = .ok (.iload_n 1, 1) := by decide +kernel
theorem dX0_codeAt_26 : decode cX0_codeAt 26 = .ok (.iaload, 1) := by decide +kernel
theorem dX0_codeAt_27 : decode cX0_codeAt 27 = .ok (.goto 5, 3) := by decide +kernel
theorem dX0_codeAt_30 : decode cX0_codeAt 30 = .ok (.ldc 23, 2) := by decide +kernel
theorem dX0_codeAt_32 : decode cX0_codeAt 32 = .ok (.ireturn, 1) := by decide +kernel
theorem dX0_countAt_0 : decode cX0_countAt 0 = .ok (.iload_n 1, 1) := by decide +kernel
theorem dX0_countAt_1 : decode cX0_countAt 1 = .ok (.ifCond .lt 29, 3) := by decide +kernel
theorem dX0_countAt_4 : decode cX0_countAt 4 = .ok (.iload_n 1, 1) := by decide +kernel
theorem dX0_countAt_5 : decode cX0_countAt 5 = .ok (.aload_n 0, 1) := by decide +kernel
theorem dX0_countAt_6 : decode cX0_countAt 6 = .ok (.getfield 7, 3) := by decide +kernel
theorem dX0_countAt_9 : decode cX0_countAt 9 = .ok (.if_icmp .ge 21, 3) := by decide +kernel
theorem dX0_countAt_12 : decode cX0_countAt 12 = .ok (.iload_n 1, 1) := by decide +kernel
theorem dX0_countAt_13 : decode cX0_countAt 13 = .ok (.aload_n 0, 1) := by decide +kernel
theorem dX0_countAt_14 : decode cX0_countAt 14 = .ok (.getfield 20, 3) := by decide +kernel
theorem dX0_countAt_17 : decode cX0_countAt 17 = .ok (.arraylength, 1) := by decide +kernel
theorem dX0_countAt_18 : decode cX0_countAt 18 = .ok (.if_icmp .ge 12, 3) := by decide +kernel
theorem dX0_countAt_21 : decode cX0_countAt 21 = .ok (.aload_n 0, 1) := by decide +kernel
theorem dX0_countAt_22 : decode cX0_countAt 22 = .ok (.getfield 20, 3) := by decide +kernel
theorem dX0_countAt_25 : decode cX0_countAt 25 = .ok (.iload_n 1, 1) := by decide +kernel
theorem dX0_countAt_26 : decode cX0_countAt 26 = .ok (.iaload, 1) := by decide +kernel
theorem dX0_countAt_27 : decode cX0_countAt 27 = .ok (.goto 4, 3) := by decide +kernel
theorem dX0_countAt_30 : decode cX0_countAt 30 = .ok (.iconst 0, 1) := by decide +kernel
theorem dX0_countAt_31 : decode cX0_countAt 31 = .ok (.ireturn, 1) := by decide +kernel
theorem dX0_countOf_0 : decode cX0_countOf 0 = .ok (.aload_n 0, 1) := by decide +kernel
theorem dX0_countOf_1 : decode cX0_countOf 1 = .ok (.iload_n 1, 1) := by decide +kernel
theorem dX0_countOf_2 : decode cX0_countOf 2 = .ok (.invokevirtual 24, 3) := by decide +kernel
theorem dX0_countOf_5 : decode cX0_countOf 5 = .ok (.istore_n 2, 1) := by decide +kernel
theorem dX0_countOf_6 : decode cX0_countOf 6 = .ok (.aload_n 0, 1) := by decide +kernel
theorem dX0_countOf_7 : decode cX0_countOf 7 = .ok (.iload_n 2, 1) := by decide +kernel
theorem dX0_countOf_8 : decode cX0_countOf 8 = .ok (.invokevirtual 28, 3) := by decide +kernel
theorem dX0_countOf_11 : decode cX0_countOf 11 = .ok (.iload_n 1, 1) := by decide +kernel
theorem dX0_countOf_12 : decode cX0_countOf 12 = .ok (.if_icmp .ne 11, 3) := by decide +kernel
theorem dX0_countOf_15 : decode cX0_countOf 15 = .ok (.aload_n 0, 1) := by decide +kernel
theorem dX0_countOf_16 : decode cX0_countOf 16 = .ok (.iload_n 2, 1) := by decide +kernel
theorem dX0_countOf_17 : decode cX0_countOf 17 = .ok (.invokevirtual 31, 3) := by decide +kernel
theorem dX0_countOf_20 : decode cX0_countOf 20 = .ok (.goto 4, 3) := by decide +kernel
theorem dX0_countOf_23 : decode cX0_countOf 23 = .ok (.iconst 0, 1) := by decide +kernel
theorem dX0_countOf_24 : decode cX0_countOf 24 = .ok (.ireturn, 1) := by decide +kernel
theorem dX0_codeOfOccurrence_0 : decode cX0_codeOfOccurrence 0 = .ok (.iconst 0, 1) := by decide +kernel
theorem dX0_codeOfOccurrence_1 : decode cX0_codeOfOccurrence 1 = .ok (.istore_n 2, 1) := by decide +kernel
theorem dX0_codeOfOccurrence_2 : decode cX0_codeOfOccurrence 2 = .ok (.iconst 0, 1) := by decide +kernel
theorem dX0_codeOfOccurrence_3 : decode cX0_codeOfOccurrence 3 = .ok (.istore_n 3, 1) := by decide +kernel
theorem dX0_codeOfOccurrence_4 : decode cX0_codeOfOccurrence 4 = .ok (.iload_n 3, 1) := by decide +kernel
theorem dX0_codeOfOccurrence_5 : decode cX0_codeOfOccurrence 5 = .ok (.aload_n 0, 1) := by decide +kernel
theorem dX0_codeOfOccurrence_6 : decode cX0_codeOfOccurrence 6 = .ok (.getfield 7, 3) := by decide +kernel
theorem dX0_codeOfOccurrence_9 : decode cX0_codeOfOccurrence 9 = .ok (.if_icmp .ge 28, 3) := by decide +kernel
theorem dX0_codeOfOccurrence_12 : decode cX0_codeOfOccurrence 12 = .ok (.iload_n 2, 1) := by decide +kernel
theorem dX0_codeOfOccurrence_13 : decode cX0_codeOfOccurrence 13 = .ok (.aload_n 0, 1) := by decide +kernel
theorem dX0_codeOfOccurrence_14 : decode cX0_codeOfOccurrence 14 = .ok (.iload_n 3, 1) := by decide +kernel
theorem dX0_codeOfOccurrence_15 : decode cX0_codeOfOccurrence 15 = .ok (.invokevirtual 31, 3) := by decide +kernel
theorem dX0_codeOfOccurrence_18 : decode cX0_codeOfOccurrence 18 = .ok (.iadd, 1) := by decide +kernel
theorem dX0_codeOfOccurrence_19 : decode cX0_codeOfOccurrence 19 = .ok (.istore_n 2, 1) := by decide +kernel
theorem dX0_codeOfOccurrence_20 : decode cX0_codeOfOccurrence 20 = .ok (.iload_n 1, 1) := by decide +kernel
theorem dX0_codeOfOccurrence_21 : decode cX0_codeOfOccurrence 21 = .ok (.iload_n 2, 1) := by decide +kernel
theorem dX0_codeOfOccurrence_22 : decode cX0_codeOfOccurrence 22 = .ok (.if_icmp .ge 9, 3) := by decide +kernel
theorem dX0_codeOfOccurrence_25 : decode cX0_codeOfOccurrence 25 = .ok (.aload_n 0, 1) := by decide +kernel
theorem dX0_codeOfOccurrence_26 : decode cX0_codeOfOccurrence 26 = .ok (.iload_n 3, 1) := by decide +kernel
theorem dX0_codeOfOccurrence_27 : decode cX0_codeOfOccurrence 27 = .ok (.invokevirtual 28, 3) := by decide +kernel
theorem dX0_codeOfOccurrence_30 : decode cX0_codeOfOccurrence 30 = .ok (.ireturn, 1) := by decide +kernel
theorem dX0_codeOfOccurrence_31 : decode cX0_codeOfOccurrence 31 = .ok (.iinc 3 1, 3) := by decide +kernel
theorem dX0_codeOfOccurrence_34 : decode cX0_codeOfOccurrence 34 = .ok (.goto (-30), 3) := by decide +kernel
theorem dX0_codeOfOccurrence_37 : decode cX0_codeOfOccurrence 37 = .ok (.ldc 23, 2) := by decide +kernel
theorem dX0_codeOfOccurrence_39 : decode cX0_codeOfOccurrence 39 = .ok (.ireturn, 1) := by decide +kernel
theorem dX0_firstNotLess_0 : decode cX0_firstNotLess 0 = .ok (.iconst 0, 1) := by decide +kernel
theorem dX0_firstNotLess_1 : decode cX0_firstNotLess 1 = .ok (.istore_n 2, 1) := by decide +kernel
theorem dX0_firstNotLess_2 : decode cX0_firstNotLess 2 = .ok (.aload_n 0, 1) := by decide +kernel
theorem dX0_firstNotLess_3 : decode cX0_firstNotLess 3 = .ok (.getfield 7, 3) := by decide +kernel
theorem dX0_firstNotLess_6 : decode cX0_firstNotLess 6 = .ok (.istore_n 3, 1) := by decide +kernel
theorem dX0_firstNotLess_7 : decode cX0_firstNotLess 7 = .ok (.iconst 0, 1) := by decide +kernel
theorem dX0_firstNotLess_8 : decode cX0_firstNotLess 8 = .ok (.istore 4, 2) := by decide +kernel
theorem dX0_firstNotLess_10 : decode cX0_firstNotLess 10 = .ok (.iload 4, 2) := by decide +kernel
theorem dX0_firstNotLess_12 : decode cX0_firstNotLess 12 = .ok (.bipush 32, 2) := by decide +kernel
theorem dX0_firstNotLess_14 : decode cX0_firstNotLess 14 = .ok (.if_icmp .ge 42, 3) := by decide +kernel
theorem dX0_firstNotLess_17 : decode cX0_firstNotLess 17 = .ok (.iload_n 2, 1) := by decide +kernel
theorem dX0_firstNotLess_18 : decode cX0_firstNotLess 18 = .ok (.iload_n 3, 1) := by decide +kernel
theorem dX0_firstNotLess_19 : decode cX0_firstNotLess 19 = .ok (.if_icmp .ge 37, 3) := by decide +kernel
theorem dX0_firstNotLess_22 : decode cX0_firstNotLess 22 = .ok (.iload_n 2, 1) := by decide +kernel
theorem dX0_firstNotLess_23 : decode cX0_firstNotLess 23 = .ok (.iload_n 3, 1) := by decide +kernel
theorem dX0_firstNotLess_24 : decode cX0_firstNotLess 24 = .ok (.iadd, 1) := by decide +kernel
theorem dX0_firstNotLess_25 : decode cX0_firstNotLess 25 = .ok (.iconst 2, 1) := by decide +kernel
theorem dX0_firstNotLess_26 : decode cX0_firstNotLess 26 = .ok (.idiv, 1) := by decide +kernel
theorem dX0_firstNotLess_27 : decode cX0_firstNotLess 27 = .ok (.istore 5, 2) := by decide +kernel
theorem dX0_firstNotLess_29 : decode cX0_firstNotLess 29 = .ok (.aload_n 0, 1) := by decide +kernel
theorem dX0_firstNotLess_30 : decode cX0_firstNotLess 30 = .ok (.iload 5, 2) := by decide +kernel
theorem dX0_firstNotLess_32 : decode cX0_firstNotLess 32 = .ok (.invokevirtual 28, 3) := by decide +kernel
theorem dX0_firstNotLess_35 : decode cX0_firstNotLess 35 = .ok (.iload_n 1, 1) := by decide +kernel
theorem dX0_firstNotLess_36 : decode cX0_firstNotLess 36 = .ok (.if_icmp .ge 11, 3) := by decide +kernel
theorem dX0_firstNotLess_39 : decode cX0_firstNotLess 39 = .ok (.iload 5, 2) := by decide +kernel
theorem dX0_firstNotLess_41 : decode cX0_firstNotLess 41 = .ok (.iconst 1, 1) := by decide +kernel
theorem dX0_firstNotLess_42 : decode cX0_firstNotLess 42 = .ok (.iadd, 1) := by decide +kernel
theorem dX0_firstNotLess_43 : decode cX0_firstNotLess 43 = .ok (.istore_n 2, 1) := by decide +kernel
theorem dX0_firstNotLess_44 : decode cX0_firstNotLess 44 = .ok (.goto 6, 3) := by decide +kernel
theorem dX0_firstNotLess_47 : decode cX0_firstNotLess 47 = .ok (.iload 5, 2) := by decide +kernel
theorem dX0_firstNotLess_49 : decode cX0_firstNotLess 49 = .ok (.istore_n 3, 1) := by decide +kernel
theorem dX0_firstNotLess_50 : decode cX0_firstNotLess 50 = .ok (.iinc 4 1, 3) := by decide +kernel
theorem dX0_firstNotLess_53 : decode cX0_firstNotLess 53 = .ok (.goto (-43), 3) := by decide +kernel
theorem dX0_firstNotLess_56 : decode cX0_firstNotLess 56 = .ok (.iload_n 2, 1) := by decide +kernel
theorem dX0_firstNotLess_57 : decode cX0_firstNotLess 57 = .ok (.ireturn, 1) := by decide +kernel
theorem dX0_add_0 : decode cX0_add 0 = .ok (.aload_n 0, 1) := by decide +kernel
theorem dX0_add_1 : decode cX0_add 1 = .ok (.iload_n 1, 1) := by decide +kernel
theorem dX0_add_2 : decode cX0_add 2 = .ok (.invokevirtual 24, 3) := by decide +kernel
theorem dX0_add_5 : decode cX0_add 5 = .ok (.istore_n 3, 1) := by decide +kernel
theorem dX0_add_6 : decode cX0_add 6 = .ok (.aload_n 0, 1) := by decide +kernel
theorem dX0_add_7 : decode cX0_add 7 = .ok (.iload_n 3, 1) := by decide +kernel
theorem dX0_add_8 : decode cX0_add 8 = .ok (.invokevirtual 28, 3) := by decide +kernel
theorem dX0_add_11 : decode cX0_add 11 = .ok (.iload_n 1, 1) := by decide +kernel
theorem dX0_add_12 : decode cX0_add 12 = .ok (.if_icmp .eq 9, 3) := by decide +kernel
theorem dX0_add_15 : decode cX0_add 15 = .ok (.aload_n 0, 1) := by decide +kernel
theorem dX0_add_16 : decode cX0_add 16 = .ok (.iload_n 3, 1) := by decide +kernel
theorem dX0_add_17 : decode cX0_add 17 = .ok (.iload_n 1, 1) := by decide +kernel
theorem dX0_add_18 : decode cX0_add 18 = .ok (.invokevirtual 34, 3) := by decide +kernel
theorem dX0_add_21 : decode cX0_add 21 = .ok (.aload_n 0, 1) := by decide +kernel
theorem dX0_add_22 : decode cX0_add 22 = .ok (.iload_n 3, 1) := by decide +kernel
theorem dX0_add_23 : decode cX0_add 23 = .ok (.invokevirtual 28, 3) := by decide +kernel
theorem dX0_add_26 : decode cX0_add 26 = .ok (.iload_n 1, 1) := by decide +kernel
theorem dX0_add_27 : decode cX0_add 27 = .ok (.if_icmp .ne 16, 3) := by decide +kernel
theorem dX0_add_30 : decode cX0_add 30 = .ok (.iload_n 3, 1) := by decide +kernel
theorem dX0_add_31 : decode cX0_add 31 = .ok (.ifCond .lt 12, 3) := by decide +kernel
theorem dX0_add_34 : decode cX0_add 34 = .ok (.iload_n 3, 1) := by decide +kernel
theorem dX0_add_35 : decode cX0_add 35 = .ok (.aload_n 0, 1) := by decide +kernel
theorem dX0_add_36 : decode cX0_add 36 = .ok (.getfield 20, 3) := by decide +kernel
theorem dX0_add_39 : decode cX0_add 39 = .ok (.arraylength, 1) := by decide +kernel
theorem dX0_add_40 : decode cX0_add 40 = .ok (.if_icmp .lt 4, 3) := by decide +kernel
theorem dX0_add_43 : decode cX0_add 43 = .ok (.return_, 1) := by decide +kernel
theorem dX0_add_44 : decode cX0_add 44 = .ok (.aload_n 0, 1) := by decide +kernel
theorem dX0_add_45 : decode cX0_add 45 = .ok (.getfield 20, 3) := by decide +kernel
theorem dX0_add_48 : decode cX0_add 48 = .ok (.iload_n 3, 1) := by decide +kernel
theorem dX0_add_49 : decode cX0_add 49 = .ok (.dup2, 1) := by decide +kernel
theorem dX0_add_50 : decode cX0_add 50 = .ok (.iaload, 1) := by decide +kernel
theorem dX0_add_51 : decode cX0_add 51 = .ok (.iload_n 2, 1) := by decide +kernel
theorem dX0_add_52 : decode cX0_add 52 = .ok (.iadd, 1) := by decide +kernel
theorem dX0_add_53 : decode cX0_add 53 = .ok (.iastore, 1) := by decide +kernel
theorem dX0_add_54 : decode cX0_add 54 = .ok (.aload_n 0, 1) := by decide +kernel
theorem dX0_add_55 : decode cX0_add 55 = .ok (.dup, 1) := by decide +kernel
theorem dX0_add_56 : decode cX0_add 56 = .ok (.getfield 13, 3) := by decide +kernel
theorem dX0_add_59 : decode cX0_add 59 = .ok (.iload_n 2, 1) := by decide +kernel
theorem dX0_add_60 : decode cX0_add 60 = .ok (.iadd, 1) := by decide +kernel
theorem dX0_add_61 : decode cX0_add 61 = .ok (.putfield 13, 3) := by decide +kernel
theorem dX0_add_64 : decode cX0_add 64 = .ok (.aload_n 0, 1) := by decide +kernel
theorem dX0_add_65 : decode cX0_add 65 = .ok (.getfield 20, 3) := by decide +kernel
theorem dX0_add_68 : decode cX0_add 68 = .ok (.iload_n 3, 1) := by decide +kernel
theorem dX0_add_69 : decode cX0_add 69 = .ok (.iaload, 1) := by decide +kernel
theorem dX0_add_70 : decode cX0_add 70 = .ok (.ifCond .ne 8, 3) := by decide +kernel
theorem dX0_add_73 : decode cX0_add 73 = .ok (.aload_n 0, 1) := by decide +kernel
theorem dX0_add_74 : decode cX0_add 74 = .ok (.iload_n 3, 1) := by decide +kernel
theorem dX0_add_75 : decode cX0_add 75 = .ok (.invokevirtual 38, 3) := by decide +kernel
theorem dX0_add_78 : decode cX0_add 78 = .ok (.return_, 1) := by decide +kernel
theorem dX0_append_0 : decode cX0_append 0 = .ok (.aload_n 0, 1) := by decide +kernel
theorem dX0_append_1 : decode cX0_append 1 = .ok (.getfield 7, 3) := by decide +kernel
theorem dX0_append_4 : decode cX0_append 4 = .ok (.ifCond .lt 67, 3) := by decide +kernel
theorem dX0_append_7 : decode cX0_append 7 = .ok (.aload_n 0, 1) := by decide +kernel
theorem dX0_append_8 : decode cX0_append 8 = .ok (.getfield 7, 3) := by decide +kernel
theorem dX0_append_11 : decode cX0_append 11 = .ok (.aload_n 0, 1) := by decide +kernel
theorem dX0_append_12 : decode cX0_append 12 = .ok (.getfield 16, 3) := by decide +kernel
theorem dX0_append_15 : decode cX0_append 15 = .ok (.arraylength, 1) := by decide +kernel
theorem dX0_append_16 : decode cX0_append 16 = .ok (.if_icmp .ge 55, 3) := by decide +kernel
theorem dX0_append_19 : decode cX0_append 19 = .ok (.aload_n 0, 1) := by decide +kernel
theorem dX0_append_20 : decode cX0_append 20 = .ok (.getfield 7, 3) := by decide +kernel
theorem dX0_append_23 : decode cX0_append 23 = .ok (.aload_n 0, 1) := by decide +kernel
theorem dX0_append_24 : decode cX0_append 24 = .ok (.getfield 20, 3) := by decide +kernel
theorem dX0_append_27 : decode cX0_append 27 = .ok (.arraylength, 1) := by decide +kernel
theorem dX0_append_28 : decode cX0_append 28 = .ok (.if_icmp .ge 43, 3) := by decide +kernel
theorem dX0_append_31 : decode cX0_append 31 = .ok (.aload_n 0, 1) := by decide +kernel
theorem dX0_append_32 : decode cX0_append 32 = .ok (.getfield 16, 3) := by decide +kernel
theorem dX0_append_35 : decode cX0_append 35 = .ok (.aload_n 0, 1) := by decide +kernel
theorem dX0_append_36 : decode cX0_append 36 = .ok (.getfield 7, 3) := by decide +kernel
theorem dX0_append_39 : decode cX0_append 39 = .ok (.iload_n 1, 1) := by decide +kernel
theorem dX0_append_40 : decode cX0_append 40 = .ok (.iastore, 1) := by decide +kernel
theorem dX0_append_41 : decode cX0_append 41 = .ok (.aload_n 0, 1) := by decide +kernel
theorem dX0_append_42 : decode cX0_append 42 = .ok (.getfield 20, 3) := by decide +kernel
theorem dX0_append_45 : decode cX0_append 45 = .ok (.aload_n 0, 1) := by decide +kernel
theorem dX0_append_46 : decode cX0_append 46 = .ok (.getfield 7, 3) := by decide +kernel
theorem dX0_append_49 : decode cX0_append 49 = .ok (.iload_n 2, 1) := by decide +kernel
theorem dX0_append_50 : decode cX0_append 50 = .ok (.iastore, 1) := by decide +kernel
theorem dX0_append_51 : decode cX0_append 51 = .ok (.aload_n 0, 1) := by decide +kernel
theorem dX0_append_52 : decode cX0_append 52 = .ok (.dup, 1) := by decide +kernel
theorem dX0_append_53 : decode cX0_append 53 = .ok (.getfield 7, 3) := by decide +kernel
theorem dX0_append_56 : decode cX0_append 56 = .ok (.iconst 1, 1) := by decide +kernel
theorem dX0_append_57 : decode cX0_append 57 = .ok (.iadd, 1) := by decide +kernel
theorem dX0_append_58 : decode cX0_append 58 = .ok (.putfield 7, 3) := by decide +kernel
theorem dX0_append_61 : decode cX0_append 61 = .ok (.aload_n 0, 1) := by decide +kernel
theorem dX0_append_62 : decode cX0_append 62 = .ok (.dup, 1) := by decide +kernel
theorem dX0_append_63 : decode cX0_append 63 = .ok (.getfield 13, 3) := by decide +kernel
theorem dX0_append_66 : decode cX0_append 66 = .ok (.iload_n 2, 1) := by decide +kernel
theorem dX0_append_67 : decode cX0_append 67 = .ok (.iadd, 1) := by decide +kernel
theorem dX0_append_68 : decode cX0_append 68 = .ok (.putfield 13, 3) := by decide +kernel
theorem dX0_append_71 : decode cX0_append 71 = .ok (.return_, 1) := by decide +kernel
theorem dX0_clear_0 : decode cX0_clear 0 = .ok (.aload_n 0, 1) := by decide +kernel
theorem dX0_clear_1 : decode cX0_clear 1 = .ok (.iconst 0, 1) := by decide +kernel
theorem dX0_clear_2 : decode cX0_clear 2 = .ok (.putfield 7, 3) := by decide +kernel
theorem dX0_clear_5 : decode cX0_clear 5 = .ok (.aload_n 0, 1) := by decide +kernel
theorem dX0_clear_6 : decode cX0_clear 6 = .ok (.iconst 0, 1) := by decide +kernel
theorem dX0_clear_7 : decode cX0_clear 7 = .ok (.putfield 13, 3) := by decide +kernel
theorem dX0_clear_10 : decode cX0_clear 10 = .ok (.return_, 1) := by decide +kernel
theorem dX0_copyFrom_0 : decode cX0_copyFrom 0 = .ok (.aload_n 0, 1) := by decide +kernel
theorem dX0_copyFrom_1 : decode cX0_copyFrom 1 = .ok (.invokevirtual 42, 3) := by decide +kernel
theorem dX0_copyFrom_4 : decode cX0_copyFrom 4 = .ok (.iconst 0, 1) := by decide +kernel
theorem dX0_copyFrom_5 : decode cX0_copyFrom 5 = .ok (.istore_n 2, 1) := by decide +kernel
theorem dX0_copyFrom_6 : decode cX0_copyFrom 6 = .ok (.iload_n 2, 1) := by decide +kernel
theorem dX0_copyFrom_7 : decode cX0_copyFrom 7 = .ok (.aload_n 1, 1) := by decide +kernel
theorem dX0_copyFrom_8 : decode cX0_copyFrom 8 = .ok (.getfield 7, 3) := by decide +kernel
theorem dX0_copyFrom_11 : decode cX0_copyFrom 11 = .ok (.if_icmp .ge 23, 3) := by decide +kernel
theorem dX0_copyFrom_14 : decode cX0_copyFrom 14 = .ok (.aload_n 0, 1) := by decide +kernel
theorem dX0_copyFrom_15 : decode cX0_copyFrom 15 = .ok (.aload_n 1, 1) := by decide +kernel
theorem dX0_copyFrom_16 : decode cX0_copyFrom 16 = .ok (.iload_n 2, 1) := by decide +kernel
theorem dX0_copyFrom_17 : decode cX0_copyFrom 17 = .ok (.invokevirtual 28, 3) := by decide +kernel
theorem dX0_copyFrom_20 : decode cX0_copyFrom 20 = .ok (.aload_n 1, 1) := by decide +kernel
theorem dX0_copyFrom_21 : decode cX0_copyFrom 21 = .ok (.iload_n 2, 1) := by decide +kernel
theorem dX0_copyFrom_22 : decode cX0_copyFrom 22 = .ok (.invokevirtual 31, 3) := by decide +kernel
theorem dX0_copyFrom_25 : decode cX0_copyFrom 25 = .ok (.invokevirtual 45, 3) := by decide +kernel
theorem dX0_copyFrom_28 : decode cX0_copyFrom 28 = .ok (.iinc 2 1, 3) := by decide +kernel
theorem dX0_copyFrom_31 : decode cX0_copyFrom 31 = .ok (.goto (-25), 3) := by decide +kernel
theorem dX0_copyFrom_34 : decode cX0_copyFrom 34 = .ok (.return_, 1) := by decide +kernel
theorem dX0_becomeDifference_0 : decode cX0_becomeDifference 0 = .ok (.aload_n 0, 1) := by decide +kernel
theorem dX0_becomeDifference_1 : decode cX0_becomeDifference 1 = .ok (.invokevirtual 42, 3) := by decide +kernel
theorem dX0_becomeDifference_4 : decode cX0_becomeDifference 4 = .ok (.iconst 0, 1) := by decide +kernel
theorem dX0_becomeDifference_5 : decode cX0_becomeDifference 5 = .ok (.istore_n 3, 1) := by decide +kernel
theorem dX0_becomeDifference_6 : decode cX0_becomeDifference 6 = .ok (.iconst 0, 1) := by decide +kernel
theorem dX0_becomeDifference_7 : decode cX0_becomeDifference 7 = .ok (.istore 4, 2) := by decide +kernel
theorem dX0_becomeDifference_9 : decode cX0_becomeDifference 9 = .ok (.aload_n 1, 1) := by decide +kernel
theorem dX0_becomeDifference_10 : decode cX0_becomeDifference 10 = .ok (.getfield 7, 3) := by decide +kernel
theorem dX0_becomeDifference_13 : decode cX0_becomeDifference 13 = .ok (.aload_n 2, 1) := by decide +kernel
theorem dX0_becomeDifference_14 : decode cX0_becomeDifference 14 = .ok (.getfield 7, 3) := by decide +kernel
theorem dX0_becomeDifference_17 : decode cX0_becomeDifference 17 = .ok (.iadd, 1) := by decide +kernel
theorem dX0_becomeDifference_18 : decode cX0_becomeDifference 18 = .ok (.istore 5, 2) := by decide +kernel
theorem dX0_becomeDifference_20 : decode cX0_becomeDifference 20 = .ok (.iconst 0, 1) := by decide +kernel
theorem dX0_becomeDifference_21 : decode cX0_becomeDifference 21 = .ok (.istore 6, 2) := by decide +kernel
theorem dX0_becomeDifference_23 : decode cX0_becomeDifference 23 = .ok (.iload 6, 2) := by decide +kernel
theorem dX0_becomeDifference_25 : decode cX0_becomeDifference 25 = .ok (.iload 5, 2) := by decide +kernel
theorem dX0_becomeDifference_27 : decode cX0_becomeDifference 27 = .ok (.if_icmp .ge 97, 3) := by decide +kernel
theorem dX0_becomeDifference_30 : decode cX0_becomeDifference 30 = .ok (.aload_n 1, 1) := by decide +kernel
theorem dX0_becomeDifference_31 : decode cX0_becomeDifference 31 = .ok (.iload_n 3, 1) := by decide +kernel
theorem dX0_becomeDifference_32 : decode cX0_becomeDifference 32 = .ok (.invokevirtual 28, 3) := by decide +kernel
theorem dX0_becomeDifference_35 : decode cX0_becomeDifference 35 = .ok (.aload_n 2, 1) := by decide +kernel
theorem dX0_becomeDifference_36 : decode cX0_becomeDifference 36 = .ok (.iload 4, 2) := by decide +kernel
theorem dX0_becomeDifference_38 : decode cX0_becomeDifference 38 = .ok (.invokevirtual 28, 3) := by decide +kernel
theorem dX0_becomeDifference_41 : decode cX0_becomeDifference 41 = .ok (.invokestatic 48, 3) := by decide +kernel
theorem dX0_becomeDifference_44 : decode cX0_becomeDifference 44 = .ok (.istore 7, 2) := by decide +kernel
theorem dX0_becomeDifference_46 : decode cX0_becomeDifference 46 = .ok (.iload 7, 2) := by decide +kernel
theorem dX0_becomeDifference_48 : decode cX0_becomeDifference 48 = .ok (.ldc 23, 2) := by decide +kernel
theorem dX0_becomeDifference_50 : decode cX0_becomeDifference 50 = .ok (.if_icmp .ne 4, 3) := by decide +kernel
theorem dX0_becomeDifference_53 : decode cX0_becomeDifference 53 = .ok (.return_, 1) := by decide +kernel
theorem dX0_becomeDifference_54 : decode cX0_becomeDifference 54 = .ok (.iconst 0, 1) := by decide +kernel
theorem dX0_becomeDifference_55 : decode cX0_becomeDifference 55 = .ok (.istore 8, 2) := by decide +kernel
theorem dX0_becomeDifference_57 : decode cX0_becomeDifference 57 = .ok (.aload_n 1, 1) := by decide +kernel
theorem dX0_becomeDifference_58 : decode cX0_becomeDifference 58 = .ok (.iload_n 3, 1) := by decide +kernel
theorem dX0_becomeDifference_59 : decode cX0_becomeDifference 59 = .ok (.invokevirtual 28, 3) := by decide +kernel
theorem dX0_becomeDifference_62 : decode cX0_becomeDifference 62 = .ok (.iload 7, 2) := by decide +kernel
theorem dX0_becomeDifference_64 : decode cX0_becomeDifference 64 = .ok (.if_icmp .ne 16, 3) := by decide +kernel
theorem dX0_becomeDifference_67 : decode cX0_becomeDifference 67 = .ok (.iload 8, 2) := by decide +kernel
theorem dX0_becomeDifference_69 : decode cX0_becomeDifference 69 = .ok (.aload_n 1, 1) := by decide +kernel
theorem dX0_becomeDifference_70 : decode cX0_becomeDifference 70 = .ok (.iload_n 3, 1) := by decide +kernel
theorem dX0_becomeDifference_71 : decode cX0_becomeDifference 71 = .ok (.invokevirtual 31, 3) := by decide +kernel
theorem dX0_becomeDifference_74 : decode cX0_becomeDifference 74 = .ok (.iadd, 1) := by decide +kernel
theorem dX0_becomeDifference_75 : decode cX0_becomeDifference 75 = .ok (.istore 8, 2) := by decide +kernel
theorem dX0_becomeDifference_77 : decode cX0_becomeDifference 77 = .ok (.iinc 3 1, 3) := by decide +kernel
theorem dX0_becomeDifference_80 : decode cX0_becomeDifference 80 = .ok (.aload_n 2, 1) := by decide +kernel
theorem dX0_becomeDifference_81 : decode cX0_becomeDifference 81 = .ok (.iload 4, 2) := by decide +kernel
theorem dX0_becomeDifference_83 : decode cX0_becomeDifference 83 = .ok (.invokevirtual 28, 3) := by decide +kernel
theorem dX0_becomeDifference_86 : decode cX0_becomeDifference 86 = .ok (.iload 7, 2) := by decide +kernel
theorem dX0_becomeDifference_88 : decode cX0_becomeDifference 88 = .ok (.if_icmp .ne 17, 3) := by decide +kernel
theorem dX0_becomeDifference_91 : decode cX0_becomeDifference 91 = .ok (.iload 8, 2) := by decide +kernel
theorem dX0_becomeDifference_93 : decode cX0_becomeDifference 93 = .ok (.aload_n 2, 1) := by decide +kernel
theorem dX0_becomeDifference_94 : decode cX0_becomeDifference 94 = .ok (.iload 4, 2) := by decide +kernel
theorem dX0_becomeDifference_96 : decode cX0_becomeDifference 96 = .ok (.invokevirtual 31, 3) := by decide +kernel
theorem dX0_becomeDifference_99 : decode cX0_becomeDifference 99 = .ok (.isub, 1) := by decide +kernel
theorem dX0_becomeDifference_100 : decode cX0_becomeDifference 100 = .ok (.istore 8, 2) := by decide +kernel
theorem dX0_becomeDifference_102 : decode cX0_becomeDifference 102 = .ok (.iinc 4 1, 3) := by decide +kernel
theorem dX0_becomeDifference_105 : decode cX0_becomeDifference 105 = .ok (.iload 8, 2) := by decide +kernel
theorem dX0_becomeDifference_107 : decode cX0_becomeDifference 107 = .ok (.ifCond .eq 11, 3) := by decide +kernel
theorem dX0_becomeDifference_110 : decode cX0_becomeDifference 110 = .ok (.aload_n 0, 1) := by decide +kernel
theorem dX0_becomeDifference_111 : decode cX0_becomeDifference 111 = .ok (.iload 7, 2) := by decide +kernel
theorem dX0_becomeDifference_113 : decode cX0_becomeDifference 113 = .ok (.iload 8, 2) := by decide +kernel
theorem dX0_becomeDifference_115 : decode cX0_becomeDifference 115 = .ok (.invokevirtual 45, 3) := by decide +kernel
theorem dX0_becomeDifference_118 : decode cX0_becomeDifference 118 = .ok (.iinc 6 1, 3) := by decide +kernel
theorem dX0_becomeDifference_121 : decode cX0_becomeDifference 121 = .ok (.goto (-98), 3) := by decide +kernel
theorem dX0_becomeDifference_124 : decode cX0_becomeDifference 124 = .ok (.return_, 1) := by decide +kernel
theorem dX0_openPlace_0 : decode cX0_openPlace 0 = .ok (.iload_n 1, 1) := by decide +kernel
theorem dX0_openPlace_1 : decode cX0_openPlace 1 = .ok (.ifCond .lt 101, 3) := by decide +kernel
theorem dX0_openPlace_4 : decode cX0_openPlace 4 = .ok (.iload_n 1, 1) := by decide +kernel
theorem dX0_openPlace_5 : decode cX0_openPlace 5 = .ok (.aload_n 0, 1) := by decide +kernel
theorem dX0_openPlace_6 : decode cX0_openPlace 6 = .ok (.getfield 7, 3) := by decide +kernel
theorem dX0_openPlace_9 : decode cX0_openPlace 9 = .ok (.if_icmp .gt 93, 3) := by decide +kernel
theorem dX0_openPlace_12 : decode cX0_openPlace 12 = .ok (.aload_n 0, 1) := by decide +kernel
theorem dX0_openPlace_13 : decode cX0_openPlace 13 = .ok (.getfield 7, 3) := by decide +kernel
theorem dX0_openPlace_16 : decode cX0_openPlace 16 = .ok (.aload_n 0, 1) := by decide +kernel
theorem dX0_openPlace_17 : decode cX0_openPlace 17 = .ok (.getfield 16, 3) := by decide +kernel
theorem dX0_openPlace_20 : decode cX0_openPlace 20 = .ok (.arraylength, 1) := by decide +kernel
theorem dX0_openPlace_21 : decode cX0_openPlace 21 = .ok (.if_icmp .ge 81, 3) := by decide +kernel
theorem dX0_openPlace_24 : decode cX0_openPlace 24 = .ok (.aload_n 0, 1) := by decide +kernel
theorem dX0_openPlace_25 : decode cX0_openPlace 25 = .ok (.getfield 7, 3) := by decide +kernel
theorem dX0_openPlace_28 : decode cX0_openPlace 28 = .ok (.aload_n 0, 1) := by decide +kernel
theorem dX0_openPlace_29 : decode cX0_openPlace 29 = .ok (.getfield 20, 3) := by decide +kernel
theorem dX0_openPlace_32 : decode cX0_openPlace 32 = .ok (.arraylength, 1) := by decide +kernel
theorem dX0_openPlace_33 : decode cX0_openPlace 33 = .ok (.if_icmp .ge 69, 3) := by decide +kernel
theorem dX0_openPlace_36 : decode cX0_openPlace 36 = .ok (.aload_n 0, 1) := by decide +kernel
theorem dX0_openPlace_37 : decode cX0_openPlace 37 = .ok (.getfield 16, 3) := by decide +kernel
theorem dX0_openPlace_40 : decode cX0_openPlace 40 = .ok (.iload_n 1, 1) := by decide +kernel
theorem dX0_openPlace_41 : decode cX0_openPlace 41 = .ok (.aload_n 0, 1) := by decide +kernel
theorem dX0_openPlace_42 : decode cX0_openPlace 42 = .ok (.getfield 16, 3) := by decide +kernel
theorem dX0_openPlace_45 : decode cX0_openPlace 45 = .ok (.iload_n 1, 1) := by decide +kernel
theorem dX0_openPlace_46 : decode cX0_openPlace 46 = .ok (.iconst 1, 1) := by decide +kernel
theorem dX0_openPlace_47 : decode cX0_openPlace 47 = .ok (.iadd, 1) := by decide +kernel
theorem dX0_openPlace_48 : decode cX0_openPlace 48 = .ok (.aload_n 0, 1) := by decide +kernel
theorem dX0_openPlace_49 : decode cX0_openPlace 49 = .ok (.getfield 7, 3) := by decide +kernel
theorem dX0_openPlace_52 : decode cX0_openPlace 52 = .ok (.iload_n 1, 1) := by decide +kernel
theorem dX0_openPlace_53 : decode cX0_openPlace 53 = .ok (.isub, 1) := by decide +kernel
theorem dX0_openPlace_54 : decode cX0_openPlace 54 = .ok (.invokestatic 54, 3) := by decide +kernel
theorem dX0_openPlace_57 : decode cX0_openPlace 57 = .ok (.aload_n 0, 1) := by decide +kernel
theorem dX0_openPlace_58 : decode cX0_openPlace 58 = .ok (.getfield 20, 3) := by decide +kernel
theorem dX0_openPlace_61 : decode cX0_openPlace 61 = .ok (.iload_n 1, 1) := by decide +kernel
theorem dX0_openPlace_62 : decode cX0_openPlace 62 = .ok (.aload_n 0, 1) := by decide +kernel
theorem dX0_openPlace_63 : decode cX0_openPlace 63 = .ok (.getfield 20, 3) := by decide +kernel
theorem dX0_openPlace_66 : decode cX0_openPlace 66 = .ok (.iload_n 1, 1) := by decide +kernel
theorem dX0_openPlace_67 : decode cX0_openPlace 67 = .ok (.iconst 1, 1) := by decide +kernel
theorem dX0_openPlace_68 : decode cX0_openPlace 68 = .ok (.iadd, 1) := by decide +kernel
theorem dX0_openPlace_69 : decode cX0_openPlace 69 = .ok (.aload_n 0, 1) := by decide +kernel
theorem dX0_openPlace_70 : decode cX0_openPlace 70 = .ok (.getfield 7, 3) := by decide +kernel
theorem dX0_openPlace_73 : decode cX0_openPlace 73 = .ok (.iload_n 1, 1) := by decide +kernel
theorem dX0_openPlace_74 : decode cX0_openPlace 74 = .ok (.isub, 1) := by decide +kernel
theorem dX0_openPlace_75 : decode cX0_openPlace 75 = .ok (.invokestatic 54, 3) := by decide +kernel
theorem dX0_openPlace_78 : decode cX0_openPlace 78 = .ok (.aload_n 0, 1) := by decide +kernel
theorem dX0_openPlace_79 : decode cX0_openPlace 79 = .ok (.getfield 16, 3) := by decide +kernel
theorem dX0_openPlace_82 : decode cX0_openPlace 82 = .ok (.iload_n 1, 1) := by decide +kernel
theorem dX0_openPlace_83 : decode cX0_openPlace 83 = .ok (.iload_n 2, 1) := by decide +kernel
theorem dX0_openPlace_84 : decode cX0_openPlace 84 = .ok (.iastore, 1) := by decide +kernel
theorem dX0_openPlace_85 : decode cX0_openPlace 85 = .ok (.aload_n 0, 1) := by decide +kernel
theorem dX0_openPlace_86 : decode cX0_openPlace 86 = .ok (.getfield 20, 3) := by decide +kernel
theorem dX0_openPlace_89 : decode cX0_openPlace 89 = .ok (.iload_n 1, 1) := by decide +kernel
theorem dX0_openPlace_90 : decode cX0_openPlace 90 = .ok (.iconst 0, 1) := by decide +kernel
theorem dX0_openPlace_91 : decode cX0_openPlace 91 = .ok (.iastore, 1) := by decide +kernel
theorem dX0_openPlace_92 : decode cX0_openPlace 92 = .ok (.aload_n 0, 1) := by decide +kernel
theorem dX0_openPlace_93 : decode cX0_openPlace 93 = .ok (.dup, 1) := by decide +kernel
theorem dX0_openPlace_94 : decode cX0_openPlace 94 = .ok (.getfield 7, 3) := by decide +kernel
theorem dX0_openPlace_97 : decode cX0_openPlace 97 = .ok (.iconst 1, 1) := by decide +kernel
theorem dX0_openPlace_98 : decode cX0_openPlace 98 = .ok (.iadd, 1) := by decide +kernel
theorem dX0_openPlace_99 : decode cX0_openPlace 99 = .ok (.putfield 7, 3) := by decide +kernel
theorem dX0_openPlace_102 : decode cX0_openPlace 102 = .ok (.return_, 1) := by decide +kernel
theorem dX0_closePlace_0 : decode cX0_closePlace 0 = .ok (.iload_n 1, 1) := by decide +kernel
theorem dX0_closePlace_1 : decode cX0_closePlace 1 = .ok (.ifCond .lt 91, 3) := by decide +kernel
theorem dX0_closePlace_4 : decode cX0_closePlace 4 = .ok (.iload_n 1, 1) := by decide +kernel
theorem dX0_closePlace_5 : decode cX0_closePlace 5 = .ok (.aload_n 0, 1) := by decide +kernel
theorem dX0_closePlace_6 : decode cX0_closePlace 6 = .ok (.getfield 7, 3) := by decide +kernel
theorem dX0_closePlace_9 : decode cX0_closePlace 9 = .ok (.if_icmp .ge 83, 3) := by decide +kernel
theorem dX0_closePlace_12 : decode cX0_closePlace 12 = .ok (.aload_n 0, 1) := by decide +kernel
theorem dX0_closePlace_13 : decode cX0_closePlace 13 = .ok (.getfield 7, 3) := by decide +kernel
theorem dX0_closePlace_16 : decode cX0_closePlace 16 = .ok (.aload_n 0, 1) := by decide +kernel
theorem dX0_closePlace_17 : decode cX0_closePlace 17 = .ok (.getfield 16, 3) := by decide +kernel
theorem dX0_closePlace_20 : decode cX0_closePlace 20 = .ok (.arraylength, 1) := by decide +kernel
theorem dX0_closePlace_21 : decode cX0_closePlace 21 = .ok (.if_icmp .gt 71, 3) := by decide +kernel
theorem dX0_closePlace_24 : decode cX0_closePlace 24 = .ok (.aload_n 0, 1) := by decide +kernel
theorem dX0_closePlace_25 : decode cX0_closePlace 25 = .ok (.getfield 7, 3) := by decide +kernel
theorem dX0_closePlace_28 : decode cX0_closePlace 28 = .ok (.aload_n 0, 1) := by decide +kernel
theorem dX0_closePlace_29 : decode cX0_closePlace 29 = .ok (.getfield 20, 3) := by decide +kernel
theorem dX0_closePlace_32 : decode cX0_closePlace 32 = .ok (.arraylength, 1) := by decide +kernel
theorem dX0_closePlace_33 : decode cX0_closePlace 33 = .ok (.if_icmp .gt 59, 3) := by decide +kernel
theorem dX0_closePlace_36 : decode cX0_closePlace 36 = .ok (.aload_n 0, 1) := by decide +kernel
theorem dX0_closePlace_37 : decode cX0_closePlace 37 = .ok (.getfield 16, 3) := by decide +kernel
theorem dX0_closePlace_40 : decode cX0_closePlace 40 = .ok (.iload_n 1, 1) := by decide +kernel
theorem dX0_closePlace_41 : decode cX0_closePlace 41 = .ok (.iconst 1, 1) := by decide +kernel
theorem dX0_closePlace_42 : decode cX0_closePlace 42 = .ok (.iadd, 1) := by decide +kernel
theorem dX0_closePlace_43 : decode cX0_closePlace 43 = .ok (.aload_n 0, 1) := by decide +kernel
theorem dX0_closePlace_44 : decode cX0_closePlace 44 = .ok (.getfield 16, 3) := by decide +kernel
theorem dX0_closePlace_47 : decode cX0_closePlace 47 = .ok (.iload_n 1, 1) := by decide +kernel
theorem dX0_closePlace_48 : decode cX0_closePlace 48 = .ok (.aload_n 0, 1) := by decide +kernel
theorem dX0_closePlace_49 : decode cX0_closePlace 49 = .ok (.getfield 7, 3) := by decide +kernel
theorem dX0_closePlace_52 : decode cX0_closePlace 52 = .ok (.iload_n 1, 1) := by decide +kernel
theorem dX0_closePlace_53 : decode cX0_closePlace 53 = .ok (.isub, 1) := by decide +kernel
theorem dX0_closePlace_54 : decode cX0_closePlace 54 = .ok (.iconst 1, 1) := by decide +kernel
theorem dX0_closePlace_55 : decode cX0_closePlace 55 = .ok (.isub, 1) := by decide +kernel
theorem dX0_closePlace_56 : decode cX0_closePlace 56 = .ok (.invokestatic 54, 3) := by decide +kernel
theorem dX0_closePlace_59 : decode cX0_closePlace 59 = .ok (.aload_n 0, 1) := by decide +kernel
theorem dX0_closePlace_60 : decode cX0_closePlace 60 = .ok (.getfield 20, 3) := by decide +kernel
theorem dX0_closePlace_63 : decode cX0_closePlace 63 = .ok (.iload_n 1, 1) := by decide +kernel
theorem dX0_closePlace_64 : decode cX0_closePlace 64 = .ok (.iconst 1, 1) := by decide +kernel
theorem dX0_closePlace_65 : decode cX0_closePlace 65 = .ok (.iadd, 1) := by decide +kernel
theorem dX0_closePlace_66 : decode cX0_closePlace 66 = .ok (.aload_n 0, 1) := by decide +kernel
theorem dX0_closePlace_67 : decode cX0_closePlace 67 = .ok (.getfield 20, 3) := by decide +kernel
theorem dX0_closePlace_70 : decode cX0_closePlace 70 = .ok (.iload_n 1, 1) := by decide +kernel
theorem dX0_closePlace_71 : decode cX0_closePlace 71 = .ok (.aload_n 0, 1) := by decide +kernel
theorem dX0_closePlace_72 : decode cX0_closePlace 72 = .ok (.getfield 7, 3) := by decide +kernel
theorem dX0_closePlace_75 : decode cX0_closePlace 75 = .ok (.iload_n 1, 1) := by decide +kernel
theorem dX0_closePlace_76 : decode cX0_closePlace 76 = .ok (.isub, 1) := by decide +kernel
theorem dX0_closePlace_77 : decode cX0_closePlace 77 = .ok (.iconst 1, 1) := by decide +kernel
theorem dX0_closePlace_78 : decode cX0_closePlace 78 = .ok (.isub, 1) := by decide +kernel
theorem dX0_closePlace_79 : decode cX0_closePlace 79 = .ok (.invokestatic 54, 3) := by decide +kernel
theorem dX0_closePlace_82 : decode cX0_closePlace 82 = .ok (.aload_n 0, 1) := by decide +kernel
theorem dX0_closePlace_83 : decode cX0_closePlace 83 = .ok (.dup, 1) := by decide +kernel
theorem dX0_closePlace_84 : decode cX0_closePlace 84 = .ok (.getfield 7, 3) := by decide +kernel
theorem dX0_closePlace_87 : decode cX0_closePlace 87 = .ok (.iconst 1, 1) := by decide +kernel
theorem dX0_closePlace_88 : decode cX0_closePlace 88 = .ok (.isub, 1) := by decide +kernel
theorem dX0_closePlace_89 : decode cX0_closePlace 89 = .ok (.putfield 7, 3) := by decide +kernel
theorem dX0_closePlace_92 : decode cX0_closePlace 92 = .ok (.return_, 1) := by decide +kernel
theorem dX1_init_0 : decode cX1_init 0 = .ok (.aload_n 0, 1) := by decide +kernel
theorem dX1_init_1 : decode cX1_init 1 = .ok (.invokespecial 3, 3) := by decide +kernel
theorem dX1_init_4 : decode cX1_init 4 = .ok (.aload_n 0, 1) := by decide +kernel
theorem dX1_init_5 : decode cX1_init 5 = .ok (.bipush 40, 2) := by decide +kernel
theorem dX1_init_7 : decode cX1_init 7 = .ok (.newarray .int, 2) := by decide +kernel
theorem dX1_init_9 : decode cX1_init 9 = .ok (.putfield 9, 3) := by decide +kernel
theorem dX1_init_12 : decode cX1_init 12 = .ok (.aload_n 0, 1) := by decide +kernel
theorem dX1_init_13 : decode cX1_init 13 = .ok (.bipush 40, 2) := by decide +kernel
theorem dX1_init_15 : decode cX1_init 15 = .ok (.newarray .int, 2) := by decide +kernel
theorem dX1_init_17 : decode cX1_init 17 = .ok (.putfield 15, 3) := by decide +kernel
theorem dX1_init_20 : decode cX1_init 20 = .ok (.aload_n 0, 1) := by decide +kernel
theorem dX1_init_21 : decode cX1_init 21 = .ok (.iconst 0, 1) := by decide +kernel
theorem dX1_init_22 : decode cX1_init 22 = .ok (.putfield 18, 3) := by decide +kernel
theorem dX1_init_25 : decode cX1_init 25 = .ok (.return_, 1) := by decide +kernel
theorem dX1_append_0 : decode cX1_append 0 = .ok (.aload_n 0, 1) := by decide +kernel
theorem dX1_append_1 : decode cX1_append 1 = .ok (.getfield 18, 3) := by decide +kernel
theorem dX1_append_4 : decode cX1_append 4 = .ok (.ifCond .lt 57, 3) := by decide +kernel
theorem dX1_append_7 : decode cX1_append 7 = .ok (.aload_n 0, 1) := by decide +kernel
theorem dX1_append_8 : decode cX1_append 8 = .ok (.getfield 18, 3) := by decide +kernel
theorem dX1_append_11 : decode cX1_append 11 = .ok (.aload_n 0, 1) := by decide +kernel
theorem dX1_append_12 : decode cX1_append 12 = .ok (.getfield 9, 3) := by decide +kernel
theorem dX1_append_15 : decode cX1_append 15 = .ok (.arraylength, 1) := by decide +kernel
theorem dX1_append_16 : decode cX1_append 16 = .ok (.if_icmp .ge 45, 3) := by decide +kernel
theorem dX1_append_19 : decode cX1_append 19 = .ok (.aload_n 0, 1) := by decide +kernel
theorem dX1_append_20 : decode cX1_append 20 = .ok (.getfield 18, 3) := by decide +kernel
theorem dX1_append_23 : decode cX1_append 23 = .ok (.aload_n 0, 1) := by decide +kernel
theorem dX1_append_24 : decode cX1_append 24 = .ok (.getfield 15, 3) := by decide +kernel
theorem dX1_append_27 : decode cX1_append 27 = .ok (.arraylength, 1) := by decide +kernel
theorem dX1_append_28 : decode cX1_append 28 = .ok (.if_icmp .ge 33, 3) := by decide +kernel
theorem dX1_append_31 : decode cX1_append 31 = .ok (.aload_n 0, 1) := by decide +kernel
theorem dX1_append_32 : decode cX1_append 32 = .ok (.getfield 9, 3) := by decide +kernel
theorem dX1_append_35 : decode cX1_append 35 = .ok (.aload_n 0, 1) := by decide +kernel
theorem dX1_append_36 : decode cX1_append 36 = .ok (.getfield 18, 3) := by decide +kernel
theorem dX1_append_39 : decode cX1_append 39 = .ok (.iload_n 1, 1) := by decide +kernel
theorem dX1_append_40 : decode cX1_append 40 = .ok (.iastore, 1) := by decide +kernel
theorem dX1_append_41 : decode cX1_append 41 = .ok (.aload_n 0, 1) := by decide +kernel
theorem dX1_append_42 : decode cX1_append 42 = .ok (.getfield 15, 3) := by decide +kernel
theorem dX1_append_45 : decode cX1_append 45 = .ok (.aload_n 0, 1) := by decide +kernel
theorem dX1_append_46 : decode cX1_append 46 = .ok (.getfield 18, 3) := by decide +kernel
theorem dX1_append_49 : decode cX1_append 49 = .ok (.iload_n 2, 1) := by decide +kernel
theorem dX1_append_50 : decode cX1_append 50 = .ok (.iastore, 1) := by decide +kernel
theorem dX1_append_51 : decode cX1_append 51 = .ok (.aload_n 0, 1) := by decide +kernel
theorem dX1_append_52 : decode cX1_append 52 = .ok (.dup, 1) := by decide +kernel
theorem dX1_append_53 : decode cX1_append 53 = .ok (.getfield 18, 3) := by decide +kernel
theorem dX1_append_56 : decode cX1_append 56 = .ok (.iconst 1, 1) := by decide +kernel
theorem dX1_append_57 : decode cX1_append 57 = .ok (.iadd, 1) := by decide +kernel
theorem dX1_append_58 : decode cX1_append 58 = .ok (.putfield 18, 3) := by decide +kernel
theorem dX1_append_61 : decode cX1_append 61 = .ok (.return_, 1) := by decide +kernel
theorem dX1_clear_0 : decode cX1_clear 0 = .ok (.aload_n 0, 1) := by decide +kernel
theorem dX1_clear_1 : decode cX1_clear 1 = .ok (.iconst 0, 1) := by decide +kernel
theorem dX1_clear_2 : decode cX1_clear 2 = .ok (.putfield 18, 3) := by decide +kernel
theorem dX1_clear_5 : decode cX1_clear 5 = .ok (.return_, 1) := by decide +kernel
theorem dX1_copyFrom_0 : decode cX1_copyFrom 0 = .ok (.aload_n 0, 1) := by decide +kernel
theorem dX1_copyFrom_1 : decode cX1_copyFrom 1 = .ok (.invokevirtual 22, 3) := by decide +kernel
theorem dX1_copyFrom_4 : decode cX1_copyFrom 4 = .ok (.iconst 0, 1) := by decide +kernel
theorem dX1_copyFrom_5 : decode cX1_copyFrom 5 = .ok (.istore_n 2, 1) := by decide +kernel
theorem dX1_copyFrom_6 : decode cX1_copyFrom 6 = .ok (.iload_n 2, 1) := by decide +kernel
theorem dX1_copyFrom_7 : decode cX1_copyFrom 7 = .ok (.aload_n 1, 1) := by decide +kernel
theorem dX1_copyFrom_8 : decode cX1_copyFrom 8 = .ok (.getfield 18, 3) := by decide +kernel
theorem dX1_copyFrom_11 : decode cX1_copyFrom 11 = .ok (.if_icmp .ge 33, 3) := by decide +kernel
theorem dX1_copyFrom_14 : decode cX1_copyFrom 14 = .ok (.aload_n 1, 1) := by decide +kernel
theorem dX1_copyFrom_15 : decode cX1_copyFrom 15 = .ok (.iload_n 2, 1) := by decide +kernel
theorem dX1_copyFrom_16 : decode cX1_copyFrom 16 = .ok (.invokevirtual 25, 3) := by decide +kernel
theorem dX1_copyFrom_19 : decode cX1_copyFrom 19 = .ok (.ifCond .eq 19, 3) := by decide +kernel
theorem dX1_copyFrom_22 : decode cX1_copyFrom 22 = .ok (.aload_n 0, 1) := by decide +kernel
theorem dX1_copyFrom_23 : decode cX1_copyFrom 23 = .ok (.aload_n 1, 1) := by decide +kernel
theorem dX1_copyFrom_24 : decode cX1_copyFrom 24 = .ok (.getfield 9, 3) := by decide +kernel
theorem dX1_copyFrom_27 : decode cX1_copyFrom 27 = .ok (.iload_n 2, 1) := by decide +kernel
theorem dX1_copyFrom_28 : decode cX1_copyFrom 28 = .ok (.iaload, 1) := by decide +kernel
theorem dX1_copyFrom_29 : decode cX1_copyFrom 29 = .ok (.aload_n 1, 1) := by decide +kernel
theorem dX1_copyFrom_30 : decode cX1_copyFrom 30 = .ok (.getfield 15, 3) := by decide +kernel
theorem dX1_copyFrom_33 : decode cX1_copyFrom 33 = .ok (.iload_n 2, 1) := by decide +kernel
theorem dX1_copyFrom_34 : decode cX1_copyFrom 34 = .ok (.iaload, 1) := by decide +kernel
theorem dX1_copyFrom_35 : decode cX1_copyFrom 35 = .ok (.invokevirtual 29, 3) := by decide +kernel
theorem dX1_copyFrom_38 : decode cX1_copyFrom 38 = .ok (.iinc 2 1, 3) := by decide +kernel
theorem dX1_copyFrom_41 : decode cX1_copyFrom 41 = .ok (.goto (-35), 3) := by decide +kernel
theorem dX1_copyFrom_44 : decode cX1_copyFrom 44 = .ok (.return_, 1) := by decide +kernel
theorem dX1_holds_0 : decode cX1_holds 0 = .ok (.aload_n 0, 1) := by decide +kernel
theorem dX1_holds_1 : decode cX1_holds 1 = .ok (.getfield 18, 3) := by decide +kernel
theorem dX1_holds_4 : decode cX1_holds 4 = .ok (.ifCond .ne 7, 3) := by decide +kernel
theorem dX1_holds_7 : decode cX1_holds 7 = .ok (.iconst 1, 1) := by decide +kernel
theorem dX1_holds_8 : decode cX1_holds 8 = .ok (.goto 4, 3) := by decide +kernel
theorem dX1_holds_11 : decode cX1_holds 11 = .ok (.iconst 0, 1) := by decide +kernel
theorem dX1_holds_12 : decode cX1_holds 12 = .ok (.istore 5, 2) := by decide +kernel
theorem dX1_holds_14 : decode cX1_holds 14 = .ok (.iconst 0, 1) := by decide +kernel
theorem dX1_holds_15 : decode cX1_holds 15 = .ok (.istore 6, 2) := by decide +kernel
theorem dX1_holds_17 : decode cX1_holds 17 = .ok (.iload 6, 2) := by decide +kernel
theorem dX1_holds_19 : decode cX1_holds 19 = .ok (.aload_n 0, 1) := by decide +kernel
theorem dX1_holds_20 : decode cX1_holds 20 = .ok (.getfield 18, 3) := by decide +kernel
theorem dX1_holds_23 : decode cX1_holds 23 = .ok (.if_icmp .ge 128, 3) := by decide +kernel
theorem dX1_holds_26 : decode cX1_holds 26 = .ok (.aload_n 0, 1) := by decide +kernel
theorem dX1_holds_27 : decode cX1_holds 27 = .ok (.iload 6, 2) := by decide +kernel
theorem dX1_holds_29 : decode cX1_holds 29 = .ok (.invokevirtual 25, 3) := by decide +kernel
theorem dX1_holds_32 : decode cX1_holds 32 = .ok (.ifCond .ne 5, 3) := by decide +kernel
theorem dX1_holds_35 : decode cX1_holds 35 = .ok (.iconst 0, 1) := by decide +kernel
theorem dX1_holds_36 : decode cX1_holds 36 = .ok (.ireturn, 1) := by decide +kernel
theorem dX1_holds_37 : decode cX1_holds 37 = .ok (.aload_n 0, 1) := by decide +kernel
theorem dX1_holds_38 : decode cX1_holds 38 = .ok (.getfield 9, 3) := by decide +kernel
theorem dX1_holds_41 : decode cX1_holds 41 = .ok (.iload 6, 2) := by decide +kernel
theorem dX1_holds_43 : decode cX1_holds 43 = .ok (.iaload, 1) := by decide +kernel
theorem dX1_holds_44 : decode cX1_holds 44 = .ok (.istore 7, 2) := by decide +kernel
theorem dX1_holds_46 : decode cX1_holds 46 = .ok (.iload 7, 2) := by decide +kernel
theorem dX1_holds_48 : decode cX1_holds 48 = .ok (.iconst 4, 1) := by decide +kernel
theorem dX1_holds_49 : decode cX1_holds 49 = .ok (.if_icmp .lt 45, 3) := by decide +kernel
theorem dX1_holds_52 : decode cX1_holds 52 = .ok (.iload 7, 2) := by decide +kernel
theorem dX1_holds_54 : decode cX1_holds 54 = .ok (.invokestatic 33, 3) := by decide +kernel
theorem dX1_holds_57 : decode cX1_holds 57 = .ok (.iload_n 1, 1) := by decide +kernel
theorem dX1_holds_58 : decode cX1_holds 58 = .ok (.iload_n 2, 1) := by decide +kernel
theorem dX1_holds_59 : decode cX1_holds 59 = .ok (.iload_n 3, 1) := by decide +kernel
theorem dX1_holds_60 : decode cX1_holds 60 = .ok (.iload 4, 2) := by decide +kernel
theorem dX1_holds_62 : decode cX1_holds 62 = .ok (.invokestatic 37, 3) := by decide +kernel
theorem dX1_holds_65 : decode cX1_holds 65 = .ok (.istore 8, 2) := by decide +kernel
theorem dX1_holds_67 : decode cX1_holds 67 = .ok (.iload 5, 2) := by decide +kernel
theorem dX1_holds_69 : decode cX1_holds 69 = .ok (.iconst 1, 1) := by decide +kernel
theorem dX1_holds_70 : decode cX1_holds 70 = .ok (.ishl, 1) := by decide +kernel
theorem dX1_holds_71 : decode cX1_holds 71 = .ok (.iload 8, 2) := by decide +kernel
theorem dX1_holds_73 : decode cX1_holds 73 = .ok (.iload 7, 2) := by decide +kernel
theorem dX1_holds_75 : decode cX1_holds 75 = .ok (.invokestatic 41, 3) := by decide +kernel
theorem dX1_holds_78 : decode cX1_holds 78 = .ok (.aload_n 0, 1) := by decide +kernel
theorem dX1_holds_79 : decode cX1_holds 79 = .ok (.getfield 15, 3) := by decide +kernel
theorem dX1_holds_82 : decode cX1_holds 82 = .ok (.iload 6, 2) := by decide +kernel
theorem dX1_holds_84 : decode cX1_holds 84 = .ok (.iaload, 1) := by decide +kernel
theorem dX1_holds_85 : decode cX1_holds 85 = .ok (.invokestatic 44, 3) := by decide +kernel
theorem dX1_holds_88 : decode cX1_holds 88 = .ok (.ior, 1) := by decide +kernel
theorem dX1_holds_89 : decode cX1_holds 89 = .ok (.istore 5, 2) := by decide +kernel
theorem dX1_holds_91 : decode cX1_holds 91 = .ok (.goto 54, 3) := by decide +kernel
theorem dX1_holds_94 : decode cX1_holds 94 = .ok (.iload 7, 2) := by decide +kernel
theorem dX1_holds_96 : decode cX1_holds 96 = .ok (.iconst 3, 1) := by decide +kernel
theorem dX1_holds_97 : decode cX1_holds 97 = .ok (.if_icmp .ne 12, 3) := by decide +kernel
theorem dX1_holds_100 : decode cX1_holds 100 = .ok (.iload 5, 2) := by decide +kernel
theorem dX1_holds_102 : decode cX1_holds 102 = .ok (.iconst 1, 1) := by decide +kernel
theorem dX1_holds_103 : decode cX1_holds 103 = .ok (.ixor, 1) := by decide +kernel
theorem dX1_holds_104 : decode cX1_holds 104 = .ok (.istore 5, 2) := by decide +kernel
theorem dX1_holds_106 : decode cX1_holds 106 = .ok (.goto 39, 3) := by decide +kernel
theorem dX1_holds_109 : decode cX1_holds 109 = .ok (.iload 5, 2) := by decide +kernel
theorem dX1_holds_111 : decode cX1_holds 111 = .ok (.iconst 1, 1) := by decide +kernel
theorem dX1_holds_112 : decode cX1_holds 112 = .ok (.iand, 1) := by decide +kernel
theorem dX1_holds_113 : decode cX1_holds 113 = .ok (.istore 8, 2) := by decide +kernel
theorem dX1_holds_115 : decode cX1_holds 115 = .ok (.iload 5, 2) := by decide +kernel
theorem dX1_holds_117 : decode cX1_holds 117 = .ok (.iconst 1, 1) := by decide +kernel
theorem dX1_holds_118 : decode cX1_holds 118 = .ok (.iushr, 1) := by decide +kernel
theorem dX1_holds_119 : decode cX1_holds 119 = .ok (.istore 5, 2) := by decide +kernel
theorem dX1_holds_121 : decode cX1_holds 121 = .ok (.iload 7, 2) := by decide +kernel
theorem dX1_holds_123 : decode cX1_holds 123 = .ok (.iconst 2, 1) := by decide +kernel
theorem dX1_holds_124 : decode cX1_holds 124 = .ok (.if_icmp .ne 14, 3) := by decide +kernel
theorem dX1_holds_127 : decode cX1_holds 127 = .ok (.iload 5, 2) := by decide +kernel
theorem dX1_holds_129 : decode cX1_holds 129 = .ok (.iload 8, 2) := by decide +kernel
theorem dX1_holds_131 : decode cX1_holds 131 = .ok (.bipush (-2), 2) := by decide +kernel
theorem dX1_holds_133 : decode cX1_holds 133 = .ok (.ior, 1) := by decide +kernel
theorem dX1_holds_134 : decode cX1_holds 134 = .ok (.iand, 1) := by decide +kernel
theorem dX1_holds_135 : decode cX1_holds 135 = .ok (.goto 8, 3) := by decide +kernel
theorem dX1_holds_138 : decode cX1_holds 138 = .ok (.iload 5, 2) := by decide +kernel
theorem dX1_holds_140 : decode cX1_holds 140 = .ok (.iload 8, 2) := by decide +kernel
theorem dX1_holds_142 : decode cX1_holds 142 = .ok (.ior, 1) := by decide +kernel
theorem dX1_holds_143 : decode cX1_holds 143 = .ok (.istore 5, 2) := by decide +kernel
theorem dX1_holds_145 : decode cX1_holds 145 = .ok (.iinc 6 1, 3) := by decide +kernel
theorem dX1_holds_148 : decode cX1_holds 148 = .ok (.goto (-131), 3) := by decide +kernel
theorem dX1_holds_151 : decode cX1_holds 151 = .ok (.iload 5, 2) := by decide +kernel
theorem dX1_holds_153 : decode cX1_holds 153 = .ok (.iconst 1, 1) := by decide +kernel
theorem dX1_holds_154 : decode cX1_holds 154 = .ok (.iand, 1) := by decide +kernel
theorem dX1_holds_155 : decode cX1_holds 155 = .ok (.iconst 1, 1) := by decide +kernel
theorem dX1_holds_156 : decode cX1_holds 156 = .ok (.if_icmp .ne 7, 3) := by decide +kernel
theorem dX1_holds_159 : decode cX1_holds 159 = .ok (.iconst 1, 1) := by decide +kernel
theorem dX1_holds_160 : decode cX1_holds 160 = .ok (.goto 4, 3) := by decide +kernel
theorem dX1_holds_163 : decode cX1_holds 163 = .ok (.iconst 0, 1) := by decide +kernel
theorem dX1_holds_164 : decode cX1_holds 164 = .ok (.ireturn, 1) := by decide +kernel
theorem dX1_isFilled_0 : decode cX1_isFilled 0 = .ok (.iload_n 1, 1) := by decide +kernel
theorem dX1_isFilled_1 : decode cX1_isFilled 1 = .ok (.ifCond .lt 33, 3) := by decide +kernel
theorem dX1_isFilled_4 : decode cX1_isFilled 4 = .ok (.iload_n 1, 1) := by decide +kernel
theorem dX1_isFilled_5 : decode cX1_isFilled 5 = .ok (.aload_n 0, 1) := by decide +kernel
theorem dX1_isFilled_6 : decode cX1_isFilled 6 = .ok (.getfield 18, 3) := by decide +kernel
theorem dX1_isFilled_9 : decode cX1_isFilled 9 = .ok (.if_icmp .ge 25, 3) := by decide +kernel
theorem dX1_isFilled_12 : decode cX1_isFilled 12 = .ok (.iload_n 1, 1) := by decide +kernel
theorem dX1_isFilled_13 : decode cX1_isFilled 13 = .ok (.aload_n 0, 1) := by decide +kernel
theorem dX1_isFilled_14 : decode cX1_isFilled 14 = .ok (.getfield 9, 3) := by decide +kernel
theorem dX1_isFilled_17 : decode cX1_isFilled 17 = .ok (.arraylength, 1) := by decide +kernel
theorem dX1_isFilled_18 : decode cX1_isFilled 18 = .ok (.if_icmp .ge 16, 3) := by decide +kernel
theorem dX1_isFilled_21 : decode cX1_isFilled 21 = .ok (.iload_n 1, 1) := by decide +kernel
theorem dX1_isFilled_22 : decode cX1_isFilled 22 = .ok (.aload_n 0, 1) := by decide +kernel
theorem dX1_isFilled_23 : decode cX1_isFilled 23 = .ok (.getfield 15, 3) := by decide +kernel
theorem dX1_isFilled_26 : decode cX1_isFilled 26 = .ok (.arraylength, 1) := by decide +kernel
theorem dX1_isFilled_27 : decode cX1_isFilled 27 = .ok (.if_icmp .ge 7, 3) := by decide +kernel
theorem dX1_isFilled_30 : decode cX1_isFilled 30 = .ok (.iconst 1, 1) := by decide +kernel
theorem dX1_isFilled_31 : decode cX1_isFilled 31 = .ok (.goto 4, 3) := by decide +kernel
theorem dX1_isFilled_34 : decode cX1_isFilled 34 = .ok (.iconst 0, 1) := by decide +kernel
theorem dX1_isFilled_35 : decode cX1_isFilled 35 = .ok (.ireturn, 1) := by decide +kernel
theorem dX1_comparisonStep_0 : decode cX1_comparisonStep 0 = .ok (.iconst 4, 1) := by decide +kernel
theorem dX1_comparisonStep_1 : decode cX1_comparisonStep 1 = .ok (.iload_n 0, 1) := by decide +kernel
theorem dX1_comparisonStep_2 : decode cX1_comparisonStep 2 = .ok (.iconst 3, 1) := by decide +kernel
theorem dX1_comparisonStep_3 : decode cX1_comparisonStep 3 = .ok (.imul, 1) := by decide +kernel
theorem dX1_comparisonStep_4 : decode cX1_comparisonStep 4 = .ok (.iadd, 1) := by decide +kernel
theorem dX1_comparisonStep_5 : decode cX1_comparisonStep 5 = .ok (.iload_n 1, 1) := by decide +kernel
theorem dX1_comparisonStep_6 : decode cX1_comparisonStep 6 = .ok (.iadd, 1) := by decide +kernel
theorem dX1_comparisonStep_7 : decode cX1_comparisonStep 7 = .ok (.ireturn, 1) := by decide +kernel
theorem dX1_nameOf_0 : decode cX1_nameOf 0 = .ok (.iload_n 0, 1) := by decide +kernel
theorem dX1_nameOf_1 : decode cX1_nameOf 1 = .ok (.iconst 4, 1) := by decide +kernel
theorem dX1_nameOf_2 : decode cX1_nameOf 2 = .ok (.isub, 1) := by decide +kernel
theorem dX1_nameOf_3 : decode cX1_nameOf 3 = .ok (.iconst 3, 1) := by decide +kernel
theorem dX1_nameOf_4 : decode cX1_nameOf 4 = .ok (.idiv, 1) := by decide +kernel
theorem dX1_nameOf_5 : decode cX1_nameOf 5 = .ok (.ireturn, 1) := by decide +kernel
theorem dX1_relationOf_0 : decode cX1_relationOf 0 = .ok (.iload_n 0, 1) := by decide +kernel
theorem dX1_relationOf_1 : decode cX1_relationOf 1 = .ok (.iconst 4, 1) := by decide +kernel
theorem dX1_relationOf_2 : decode cX1_relationOf 2 = .ok (.isub, 1) := by decide +kernel
theorem dX1_relationOf_3 : decode cX1_relationOf 3 = .ok (.iconst 3, 1) := by decide +kernel
theorem dX1_relationOf_4 : decode cX1_relationOf 4 = .ok (.irem, 1) := by decide +kernel
theorem dX1_relationOf_5 : decode cX1_relationOf 5 = .ok (.ireturn, 1) := by decide +kernel
theorem dX1_operandOf_0 : decode cX1_operandOf 0 = .ok (.iload_n 0, 1) := by decide +kernel
theorem dX1_operandOf_1 : decode cX1_operandOf 1 = .ok (.tableswitch 40 0 3 #[31, 33, 35, 37], 31) := by decide +kernel
theorem dX1_operandOf_32 : decode cX1_operandOf 32 = .ok (.iload_n 1, 1) := by decide +kernel
theorem dX1_operandOf_33 : decode cX1_operandOf 33 = .ok (.ireturn, 1) := by decide +kernel
theorem dX1_operandOf_34 : decode cX1_operandOf 34 = .ok (.iload_n 2, 1) := by decide +kernel
theorem dX1_operandOf_35 : decode cX1_operandOf 35 = .ok (.ireturn, 1) := by decide +kernel
theorem dX1_operandOf_36 : decode cX1_operandOf 36 = .ok (.iload_n 3, 1) := by decide +kernel
theorem dX1_operandOf_37 : decode cX1_operandOf 37 = .ok (.ireturn, 1) := by decide +kernel
theorem dX1_operandOf_38 : decode cX1_operandOf 38 = .ok (.iload 4, 2) := by decide +kernel
theorem dX1_operandOf_40 : decode cX1_operandOf 40 = .ok (.ireturn, 1) := by decide +kernel
theorem dX1_operandOf_41 : decode cX1_operandOf 41 = .ok (.iload_n 3, 1) := by decide +kernel
theorem dX1_operandOf_42 : decode cX1_operandOf 42 = .ok (.iload 4, 2) := by decide +kernel
theorem dX1_operandOf_44 : decode cX1_operandOf 44 = .ok (.imul, 1) := by decide +kernel
theorem dX1_operandOf_45 : decode cX1_operandOf 45 = .ok (.ireturn, 1) := by decide +kernel
theorem dX1_compare_0 : decode cX1_compare 0 = .ok (.iload_n 1, 1) := by decide +kernel
theorem dX1_compare_1 : decode cX1_compare 1 = .ok (.lookupswitch 49 #[(0, 27), (1, 38)], 27) := by decide +kernel
theorem dX1_compare_28 : decode cX1_compare 28 = .ok (.iload_n 0, 1) := by decide +kernel
theorem dX1_compare_29 : decode cX1_compare 29 = .ok (.iload_n 2, 1) := by decide +kernel
theorem dX1_compare_30 : decode cX1_compare 30 = .ok (.if_icmp .ge 7, 3) := by decide +kernel
theorem dX1_compare_33 : decode cX1_compare 33 = .ok (.iconst 1, 1) := by decide +kernel
theorem dX1_compare_34 : decode cX1_compare 34 = .ok (.goto 4, 3) := by decide +kernel
theorem dX1_compare_37 : decode cX1_compare 37 = .ok (.iconst 0, 1) := by decide +kernel
theorem dX1_compare_38 : decode cX1_compare 38 = .ok (.ireturn, 1) := by decide +kernel
theorem dX1_compare_39 : decode cX1_compare 39 = .ok (.iload_n 0, 1) := by decide +kernel
theorem dX1_compare_40 : decode cX1_compare 40 = .ok (.iload_n 2, 1) := by decide +kernel
theorem dX1_compare_41 : decode cX1_compare 41 = .ok (.if_icmp .ne 7, 3) := by decide +kernel
theorem dX1_compare_44 : decode cX1_compare 44 = .ok (.iconst 1, 1) := by decide +kernel
theorem dX1_compare_45 : decode cX1_compare 45 = .ok (.goto 4, 3) := by decide +kernel
theorem dX1_compare_48 : decode cX1_compare 48 = .ok (.iconst 0, 1) := by decide +kernel
theorem dX1_compare_49 : decode cX1_compare 49 = .ok (.ireturn, 1) := by decide +kernel
theorem dX1_compare_50 : decode cX1_compare 50 = .ok (.iload_n 0, 1) := by decide +kernel
theorem dX1_compare_51 : decode cX1_compare 51 = .ok (.iload_n 2, 1) := by decide +kernel
theorem dX1_compare_52 : decode cX1_compare 52 = .ok (.if_icmp .le 7, 3) := by decide +kernel
theorem dX1_compare_55 : decode cX1_compare 55 = .ok (.iconst 1, 1) := by decide +kernel
theorem dX1_compare_56 : decode cX1_compare 56 = .ok (.goto 4, 3) := by decide +kernel
theorem dX1_compare_59 : decode cX1_compare 59 = .ok (.iconst 0, 1) := by decide +kernel
theorem dX1_compare_60 : decode cX1_compare 60 = .ok (.ireturn, 1) := by decide +kernel
theorem dX2_init_0 : decode cX2_init 0 = .ok (.aload_n 0, 1) := by decide +kernel
theorem dX2_init_1 : decode cX2_init 1 = .ok (.invokespecial 3, 3) := by decide +kernel
theorem dX2_init_4 : decode cX2_init 4 = .ok (.aload_n 0, 1) := by decide +kernel
theorem dX2_init_5 : decode cX2_init 5 = .ok (.bipush 40, 2) := by decide +kernel
theorem dX2_init_7 : decode cX2_init 7 = .ok (.newarray .char, 2) := by decide +kernel
theorem dX2_init_9 : decode cX2_init 9 = .ok (.putfield 9, 3) := by decide +kernel
theorem dX2_init_12 : decode cX2_init 12 = .ok (.aload_n 0, 1) := by decide +kernel
theorem dX2_init_13 : decode cX2_init 13 = .ok (.iconst 0, 1) := by decide +kernel
theorem dX2_init_14 : decode cX2_init 14 = .ok (.putfield 15, 3) := by decide +kernel
theorem dX2_init_17 : decode cX2_init 17 = .ok (.aload_n 0, 1) := by decide +kernel
theorem dX2_init_18 : decode cX2_init 18 = .ok (.iconst 0, 1) := by decide +kernel
theorem dX2_init_19 : decode cX2_init 19 = .ok (.putfield 19, 3) := by decide +kernel
theorem dX2_init_22 : decode cX2_init 22 = .ok (.aload_n 0, 1) := by decide +kernel
theorem dX2_init_23 : decode cX2_init 23 = .ok (.bipush 40, 2) := by decide +kernel
theorem dX2_init_25 : decode cX2_init 25 = .ok (.newarray .int, 2) := by decide +kernel
theorem dX2_init_27 : decode cX2_init 27 = .ok (.putfield 22, 3) := by decide +kernel
theorem dX2_init_30 : decode cX2_init 30 = .ok (.aload_n 0, 1) := by decide +kernel
theorem dX2_init_31 : decode cX2_init 31 = .ok (.iconst 0, 1) := by decide +kernel
theorem dX2_init_32 : decode cX2_init 32 = .ok (.putfield 26, 3) := by decide +kernel
theorem dX2_init_35 : decode cX2_init 35 = .ok (.aload_n 0, 1) := by decide +kernel
theorem dX2_init_36 : decode cX2_init 36 = .ok (.iconst 0, 1) := by decide +kernel
theorem dX2_init_37 : decode cX2_init 37 = .ok (.putfield 29, 3) := by decide +kernel
theorem dX2_init_40 : decode cX2_init 40 = .ok (.aload_n 0, 1) := by decide +kernel
theorem dX2_init_41 : decode cX2_init 41 = .ok (.new 32, 3) := by decide +kernel
theorem dX2_init_44 : decode cX2_init 44 = .ok (.dup, 1) := by decide +kernel
theorem dX2_init_45 : decode cX2_init 45 = .ok (.invokespecial 34, 3) := by decide +kernel
theorem dX2_init_48 : decode cX2_init 48 = .ok (.putfield 35, 3) := by decide +kernel
theorem dX2_init_51 : decode cX2_init 51 = .ok (.return_, 1) := by decide +kernel
theorem dX2_length_0 : decode cX2_length 0 = .ok (.aload_n 0, 1) := by decide +kernel
theorem dX2_length_1 : decode cX2_length 1 = .ok (.getfield 15, 3) := by decide +kernel
theorem dX2_length_4 : decode cX2_length 4 = .ok (.ireturn, 1) := by decide +kernel
theorem dX2_draft_0 : decode cX2_draft 0 = .ok (.aload_n 0, 1) := by decide +kernel
theorem dX2_draft_1 : decode cX2_draft 1 = .ok (.getfield 35, 3) := by decide +kernel
theorem dX2_draft_4 : decode cX2_draft 4 = .ok (.areturn, 1) := by decide +kernel
theorem dX2_append_0 : decode cX2_append 0 = .ok (.aload_n 0, 1) := by decide +kernel
theorem dX2_append_1 : decode cX2_append 1 = .ok (.getfield 15, 3) := by decide +kernel
theorem dX2_append_4 : decode cX2_append 4 = .ok (.ifCond .lt 35, 3) := by decide +kernel
theorem dX2_append_7 : decode cX2_append 7 = .ok (.aload_n 0, 1) := by decide +kernel
theorem dX2_append_8 : decode cX2_append 8 = .ok (.getfield 15, 3) := by decide +kernel
theorem dX2_append_11 : decode cX2_append 11 = .ok (.aload_n 0, 1) := by decide +kernel
theorem dX2_append_12 : decode cX2_append 12 = .ok (.getfield 9, 3) := by decide +kernel
theorem dX2_append_15 : decode cX2_append 15 = .ok (.arraylength, 1) := by decide +kernel
theorem dX2_append_16 : decode cX2_append 16 = .ok (.if_icmp .ge 23, 3) := by decide +kernel
theorem dX2_append_19 : decode cX2_append 19 = .ok (.aload_n 0, 1) := by decide +kernel
theorem dX2_append_20 : decode cX2_append 20 = .ok (.getfield 9, 3) := by decide +kernel
theorem dX2_append_23 : decode cX2_append 23 = .ok (.aload_n 0, 1) := by decide +kernel
theorem dX2_append_24 : decode cX2_append 24 = .ok (.getfield 15, 3) := by decide +kernel
theorem dX2_append_27 : decode cX2_append 27 = .ok (.iload_n 1, 1) := by decide +kernel
theorem dX2_append_28 : decode cX2_append 28 = .ok (.castore, 1) := by decide +kernel
theorem dX2_append_29 : decode cX2_append 29 = .ok (.aload_n 0, 1) := by decide +kernel
theorem dX2_append_30 : decode cX2_append 30 = .ok (.dup, 1) := by decide +kernel
theorem dX2_append_31 : decode cX2_append 31 = .ok (.getfield 15, 3) := by decide +kernel
theorem dX2_append_34 : decode cX2_append 34 = .ok (.iconst 1, 1) := by decide +kernel
theorem dX2_append_35 : decode cX2_append 35 = .ok (.iadd, 1) := by decide +kernel
theorem dX2_append_36 : decode cX2_append 36 = .ok (.putfield 15, 3) := by decide +kernel
theorem dX2_append_39 : decode cX2_append 39 = .ok (.return_, 1) := by decide +kernel
theorem dX2_clear_0 : decode cX2_clear 0 = .ok (.aload_n 0, 1) := by decide +kernel
theorem dX2_clear_1 : decode cX2_clear 1 = .ok (.iconst 0, 1) := by decide +kernel
theorem dX2_clear_2 : decode cX2_clear 2 = .ok (.putfield 15, 3) := by decide +kernel
theorem dX2_clear_5 : decode cX2_clear 5 = .ok (.return_, 1) := by decide +kernel
theorem dX2_readText_0 : decode cX2_readText 0 = .ok (.aload_n 0, 1) := by decide +kernel
theorem dX2_readText_1 : decode cX2_readText 1 = .ok (.iconst 0, 1) := by decide +kernel
theorem dX2_readText_2 : decode cX2_readText 2 = .ok (.putfield 19, 3) := by decide +kernel
theorem dX2_readText_5 : decode cX2_readText 5 = .ok (.aload_n 0, 1) := by decide +kernel
theorem dX2_readText_6 : decode cX2_readText 6 = .ok (.iconst 0, 1) := by decide +kernel
theorem dX2_readText_7 : decode cX2_readText 7 = .ok (.putfield 26, 3) := by decide +kernel
theorem dX2_readText_10 : decode cX2_readText 10 = .ok (.aload_n 0, 1) := by decide +kernel
theorem dX2_readText_11 : decode cX2_readText 11 = .ok (.iconst 0, 1) := by decide +kernel
theorem dX2_readText_12 : decode cX2_readText 12 = .ok (.putfield 29, 3) := by decide +kernel
theorem dX2_readText_15 : decode cX2_readText 15 = .ok (.aload_n 0, 1) := by decide +kernel
theorem dX2_readText_16 : decode cX2_readText 16 = .ok (.getfield 35, 3) := by decide +kernel
theorem dX2_readText_19 : decode cX2_readText 19 = .ok (.invokevirtual 39, 3) := by decide +kernel
theorem dX2_readText_22 : decode cX2_readText 22 = .ok (.iconst 0, 1) := by decide +kernel
theorem dX2_readText_23 : decode cX2_readText 23 = .ok (.istore_n 1, 1) := by decide +kernel
theorem dX2_readText_24 : decode cX2_readText 24 = .ok (.iconst 0, 1) := by decide +kernel
theorem dX2_readText_25 : decode cX2_readText 25 = .ok (.istore_n 2, 1) := by decide +kernel
theorem dX2_readText_26 : decode cX2_readText 26 = .ok (.iload_n 2, 1) := by decide +kernel
theorem dX2_readText_27 : decode cX2_readText 27 = .ok (.bipush 40, 2) := by decide +kernel
theorem dX2_readText_29 : decode cX2_readText 29 = .ok (.if_icmp .ge 41, 3) := by decide +kernel
theorem dX2_readText_32 : decode cX2_readText 32 = .ok (.aload_n 0, 1) := by decide +kernel
theorem dX2_readText_33 : decode cX2_readText 33 = .ok (.getfield 19, 3) := by decide +kernel
theorem dX2_readText_36 : decode cX2_readText 36 = .ok (.aload_n 0, 1) := by decide +kernel
theorem dX2_readText_37 : decode cX2_readText 37 = .ok (.getfield 15, 3) := by decide +kernel
theorem dX2_readText_40 : decode cX2_readText 40 = .ok (.if_icmp .ge 30, 3) := by decide +kernel
theorem dX2_readText_43 : decode cX2_readText 43 = .ok (.iload_n 1, 1) := by decide +kernel
theorem dX2_readText_44 : decode cX2_readText 44 = .ok (.iconst 2, 1) := by decide +kernel
theorem dX2_readText_45 : decode cX2_readText 45 = .ok (.if_icmp .eq 25, 3) := by decide +kernel
theorem dX2_readText_48 : decode cX2_readText 48 = .ok (.iload_n 1, 1) := by decide +kernel
theorem dX2_readText_49 : decode cX2_readText 49 = .ok (.ifCond .ne 10, 3) := by decide +kernel
theorem dX2_readText_52 : decode cX2_readText 52 = .ok (.aload_n 0, 1) := by decide +kernel
theorem dX2_readText_53 : decode cX2_readText 53 = .ok (.invokevirtual 42, 3) := by decide +kernel
theorem dX2_readText_56 : decode cX2_readText 56 = .ok (.goto 7, 3) := by decide +kernel
theorem dX2_readText_59 : decode cX2_readText 59 = .ok (.aload_n 0, 1) := by decide +kernel
theorem dX2_readText_60 : decode cX2_readText 60 = .ok (.invokevirtual 46, 3) := by decide +kernel
theorem dX2_readText_63 : decode cX2_readText 63 = .ok (.istore_n 1, 1) := by decide +kernel
theorem dX2_readText_64 : decode cX2_readText 64 = .ok (.iinc 2 1, 3) := by decide +kernel
theorem dX2_readText_67 : decode cX2_readText 67 = .ok (.goto (-41), 3) := by decide +kernel
theorem dX2_readText_70 : decode cX2_readText 70 = .ok (.iload_n 1, 1) := by decide +kernel
theorem dX2_readText_71 : decode cX2_readText 71 = .ok (.iconst 1, 1) := by decide +kernel
theorem dX2_readText_72 : decode cX2_readText 72 = .ok (.if_icmp .ne 10, 3) := by decide +kernel
theorem dX2_readText_75 : decode cX2_readText 75 = .ok (.aload_n 0, 1) := by decide +kernel
theorem dX2_readText_76 : decode cX2_readText 76 = .ok (.getfield 29, 3) := by decide +kernel
theorem dX2_readText_79 : decode cX2_readText 79 = .ok (.ifCond .le 8, 3) := by decide +kernel
theorem dX2_readText_82 : decode cX2_readText 82 = .ok (.aload_n 0, 1) := by decide +kernel
theorem dX2_readText_83 : decode cX2_readText 83 = .ok (.getfield 19, 3) := by decide +kernel
theorem dX2_readText_86 : decode cX2_readText 86 = .ok (.ireturn, 1) := by decide +kernel
theorem dX2_readText_87 : decode cX2_readText 87 = .ok (.aload_n 0, 1) := by decide +kernel
theorem dX2_readText_88 : decode cX2_readText 88 = .ok (.iconst 1, 1) := by decide +kernel
theorem dX2_readText_89 : decode cX2_readText 89 = .ok (.invokevirtual 49, 3) := by decide +kernel
theorem dX2_readText_92 : decode cX2_readText 92 = .ok (.iconst (-1), 1) := by decide +kernel
theorem dX2_readText_93 : decode cX2_readText 93 = .ok (.ireturn, 1) := by decide +kernel
theorem dX2_readFactor_0 : decode cX2_readFactor 0 = .ok (.aload_n 0, 1) := by decide +kernel
theorem dX2_readFactor_1 : decode cX2_readFactor 1 = .ok (.aload_n 0, 1) := by decide +kernel
theorem dX2_readFactor_2 : decode cX2_readFactor 2 = .ok (.getfield 19, 3) := by decide +kernel
theorem dX2_readFactor_5 : decode cX2_readFactor 5 = .ok (.invokevirtual 53, 3) := by decide +kernel
theorem dX2_readFactor_8 : decode cX2_readFactor 8 = .ok (.istore_n 1, 1) := by decide +kernel
theorem dX2_readFactor_9 : decode cX2_readFactor 9 = .ok (.iload_n 1, 1) := by decide +kernel
theorem dX2_readFactor_10 : decode cX2_readFactor 10 = .ok (.bipush 33, 2) := by decide +kernel
theorem dX2_readFactor_12 : decode cX2_readFactor 12 = .ok (.if_icmp .ne 10, 3) := by decide +kernel
theorem dX2_readFactor_15 : decode cX2_readFactor 15 = .ok (.aload_n 0, 1) := by decide +kernel
theorem dX2_readFactor_16 : decode cX2_readFactor 16 = .ok (.iconst 3, 1) := by decide +kernel
theorem dX2_readFactor_17 : decode cX2_readFactor 17 = .ok (.invokevirtual 57, 3) := by decide +kernel
theorem dX2_readFactor_20 : decode cX2_readFactor 20 = .ok (.iconst 0, 1) := by decide +kernel
theorem dX2_readFactor_21 : decode cX2_readFactor 21 = .ok (.ireturn, 1) := by decide +kernel
theorem dX2_readFactor_22 : decode cX2_readFactor 22 = .ok (.iload_n 1, 1) := by decide +kernel
theorem dX2_readFactor_23 : decode cX2_readFactor 23 = .ok (.bipush 40, 2) := by decide +kernel
theorem dX2_readFactor_25 : decode cX2_readFactor 25 = .ok (.if_icmp .ne 20, 3) := by decide +kernel
theorem dX2_readFactor_28 : decode cX2_readFactor 28 = .ok (.aload_n 0, 1) := by decide +kernel
theorem dX2_readFactor_29 : decode cX2_readFactor 29 = .ok (.iconst 0, 1) := by decide +kernel
theorem dX2_readFactor_30 : decode cX2_readFactor 30 = .ok (.invokevirtual 57, 3) := by decide +kernel
theorem dX2_readFactor_33 : decode cX2_readFactor 33 = .ok (.aload_n 0, 1) := by decide +kernel
theorem dX2_readFactor_34 : decode cX2_readFactor 34 = .ok (.dup, 1) := by decide +kernel
theorem dX2_readFactor_35 : decode cX2_readFactor 35 = .ok (.getfield 29, 3) := by decide +kernel
theorem dX2_readFactor_38 : decode cX2_readFactor 38 = .ok (.iconst 1, 1) := by decide +kernel
theorem dX2_readFactor_39 : decode cX2_readFactor 39 = .ok (.iadd, 1) := by decide +kernel
theorem dX2_readFactor_40 : decode cX2_readFactor 40 = .ok (.putfield 29, 3) := by decide +kernel
theorem dX2_readFactor_43 : decode cX2_readFactor 43 = .ok (.iconst 0, 1) := by decide +kernel
theorem dX2_readFactor_44 : decode cX2_readFactor 44 = .ok (.ireturn, 1) := by decide +kernel
theorem dX2_readFactor_45 : decode cX2_readFactor 45 = .ok (.aload_n 0, 1) := by decide +kernel
theorem dX2_readFactor_46 : decode cX2_readFactor 46 = .ok (.invokevirtual 60, 3) := by decide +kernel
theorem dX2_readFactor_49 : decode cX2_readFactor 49 = .ok (.ifCond .eq 7, 3) := by decide +kernel
theorem dX2_readFactor_52 : decode cX2_readFactor 52 = .ok (.iconst 1, 1) := by decide +kernel
theorem dX2_readFactor_53 : decode cX2_readFactor 53 = .ok (.goto 4, 3) := by decide +kernel
theorem dX2_readFactor_56 : decode cX2_readFactor 56 = .ok (.iconst 2, 1) := by decide +kernel
theorem dX2_readFactor_57 : decode cX2_readFactor 57 = .ok (.ireturn, 1) := by decide +kernel
theorem dX2_readBehindFactor_0 : decode cX2_readBehindFactor 0 = .ok (.aload_n 0, 1) := by decide +kernel
theorem dX2_readBehindFactor_1 : decode cX2_readBehindFactor 1 = .ok (.aload_n 0, 1) := by decide +kernel
theorem dX2_readBehindFactor_2 : decode cX2_readBehindFactor 2 = .ok (.getfield 19, 3) := by decide +kernel
theorem dX2_readBehindFactor_5 : decode cX2_readBehindFactor 5 = .ok (.invokevirtual 53, 3) := by decide +kernel
theorem dX2_readBehindFactor_8 : decode cX2_readBehindFactor 8 = .ok (.istore_n 1, 1) := by decide +kernel
theorem dX2_readBehindFactor_9 : decode cX2_readBehindFactor 9 = .ok (.iload_n 1, 1) := by decide +kernel
theorem dX2_readBehindFactor_10 : decode cX2_readBehindFactor 10 = .ok (.bipush 38, 2) := by decide +kernel
theorem dX2_readBehindFactor_12 : decode cX2_readBehindFactor 12 = .ok (.if_icmp .ne 15, 3) := by decide +kernel
theorem dX2_readBehindFactor_15 : decode cX2_readBehindFactor 15 = .ok (.aload_n 0, 1) := by decide +kernel
theorem dX2_readBehindFactor_16 : decode cX2_readBehindFactor 16 = .ok (.iconst 2, 1) := by decide +kernel
theorem dX2_readBehindFactor_17 : decode cX2_readBehindFactor 17 = .ok (.invokevirtual 49, 3) := by decide +kernel
theorem dX2_readBehindFactor_20 : decode cX2_readBehindFactor 20 = .ok (.aload_n 0, 1) := by decide +kernel
theorem dX2_readBehindFactor_21 : decode cX2_readBehindFactor 21 = .ok (.iconst 2, 1) := by decide +kernel
theorem dX2_readBehindFactor_22 : decode cX2_readBehindFactor 22 = .ok (.invokevirtual 57, 3) := by decide +kernel
theorem dX2_readBehindFactor_25 : decode cX2_readBehindFactor 25 = .ok (.iconst 0, 1) := by decide +kernel
theorem dX2_readBehindFactor_26 : decode cX2_readBehindFactor 26 = .ok (.ireturn, 1) := by decide +kernel
theorem dX2_readBehindFactor_27 : decode cX2_readBehindFactor 27 = .ok (.iload_n 1, 1) := by decide +kernel
theorem dX2_readBehindFactor_28 : decode cX2_readBehindFactor 28 = .ok (.bipush 124, 2) := by decide +kernel
theorem dX2_readBehindFactor_30 : decode cX2_readBehindFactor 30 = .ok (.if_icmp .ne 15, 3) := by decide +kernel
theorem dX2_readBehindFactor_33 : decode cX2_readBehindFactor 33 = .ok (.aload_n 0, 1) := by decide +kernel
theorem dX2_readBehindFactor_34 : decode cX2_readBehindFactor 34 = .ok (.iconst 1, 1) := by decide +kernel
theorem dX2_readBehindFactor_35 : decode cX2_readBehindFactor 35 = .ok (.invokevirtual 49, 3) := by decide +kernel
theorem dX2_readBehindFactor_38 : decode cX2_readBehindFactor 38 = .ok (.aload_n 0, 1) := by decide +kernel
theorem dX2_readBehindFactor_39 : decode cX2_readBehindFactor 39 = .ok (.iconst 1, 1) := by decide +kernel
theorem dX2_readBehindFactor_40 : decode cX2_readBehindFactor 40 = .ok (.invokevirtual 57, 3) := by decide +kernel
theorem dX2_readBehindFactor_43 : decode cX2_readBehindFactor 43 = .ok (.iconst 0, 1) := by decide +kernel
theorem dX2_readBehindFactor_44 : decode cX2_readBehindFactor 44 = .ok (.ireturn, 1) := by decide +kernel
theorem dX2_readBehindFactor_45 : decode cX2_readBehindFactor 45 = .ok (.iload_n 1, 1) := by decide +kernel
theorem dX2_readBehindFactor_46 : decode cX2_readBehindFactor 46 = .ok (.bipush 41, 2) := by decide +kernel
theorem dX2_readBehindFactor_48 : decode cX2_readBehindFactor 48 = .ok (.if_icmp .ne 17, 3) := by decide +kernel
theorem dX2_readBehindFactor_51 : decode cX2_readBehindFactor 51 = .ok (.aload_n 0, 1) := by decide +kernel
theorem dX2_readBehindFactor_52 : decode cX2_readBehindFactor 52 = .ok (.getfield 29, 3) := by decide +kernel
theorem dX2_readBehindFactor_55 : decode cX2_readBehindFactor 55 = .ok (.ifCond .le 10, 3) := by decide +kernel
theorem dX2_readBehindFactor_58 : decode cX2_readBehindFactor 58 = .ok (.aload_n 0, 1) := by decide +kernel
theorem dX2_readBehindFactor_59 : decode cX2_readBehindFactor 59 = .ok (.invokevirtual 64, 3) := by decide +kernel
theorem dX2_readBehindFactor_62 : decode cX2_readBehindFactor 62 = .ok (.goto 4, 3) := by decide +kernel
theorem dX2_readBehindFactor_65 : decode cX2_readBehindFactor 65 = .ok (.iconst 2, 1) := by decide +kernel
theorem dX2_readBehindFactor_66 : decode cX2_readBehindFactor 66 = .ok (.ireturn, 1) := by decide +kernel
theorem dX2_readClosing_0 : decode cX2_readClosing 0 = .ok (.aload_n 0, 1) := by decide +kernel
theorem dX2_readClosing_1 : decode cX2_readClosing 1 = .ok (.iconst 1, 1) := by decide +kernel
theorem dX2_readClosing_2 : decode cX2_readClosing 2 = .ok (.invokevirtual 49, 3) := by decide +kernel
theorem dX2_readClosing_5 : decode cX2_readClosing 5 = .ok (.aload_n 0, 1) := by decide +kernel
theorem dX2_readClosing_6 : decode cX2_readClosing 6 = .ok (.dup, 1) := by decide +kernel
theorem dX2_readClosing_7 : decode cX2_readClosing 7 = .ok (.getfield 26, 3) := by decide +kernel
theorem dX2_readClosing_10 : decode cX2_readClosing 10 = .ok (.iconst 1, 1) := by decide +kernel
theorem dX2_readClosing_11 : decode cX2_readClosing 11 = .ok (.isub, 1) := by decide +kernel
theorem dX2_readClosing_12 : decode cX2_readClosing 12 = .ok (.putfield 26, 3) := by decide +kernel
theorem dX2_readClosing_15 : decode cX2_readClosing 15 = .ok (.aload_n 0, 1) := by decide +kernel
theorem dX2_readClosing_16 : decode cX2_readClosing 16 = .ok (.dup, 1) := by decide +kernel
theorem dX2_readClosing_17 : decode cX2_readClosing 17 = .ok (.getfield 29, 3) := by decide +kernel
theorem dX2_readClosing_20 : decode cX2_readClosing 20 = .ok (.iconst 1, 1) := by decide +kernel
theorem dX2_readClosing_21 : decode cX2_readClosing 21 = .ok (.isub, 1) := by decide +kernel
theorem dX2_readClosing_22 : decode cX2_readClosing 22 = .ok (.putfield 29, 3) := by decide +kernel
theorem dX2_readClosing_25 : decode cX2_readClosing 25 = .ok (.aload_n 0, 1) := by decide +kernel
theorem dX2_readClosing_26 : decode cX2_readClosing 26 = .ok (.dup, 1) := by decide +kernel
theorem dX2_readClosing_27 : decode cX2_readClosing 27 = .ok (.getfield 19, 3) := by decide +kernel
theorem dX2_readClosing_30 : decode cX2_readClosing 30 = .ok (.iconst 1, 1) := by decide +kernel
theorem dX2_readClosing_31 : decode cX2_readClosing 31 = .ok (.iadd, 1) := by decide +kernel
theorem dX2_readClosing_32 : decode cX2_readClosing 32 = .ok (.putfield 19, 3) := by decide +kernel
theorem dX2_readClosing_35 : decode cX2_readClosing 35 = .ok (.iconst 1, 1) := by decide +kernel
theorem dX2_readClosing_36 : decode cX2_readClosing 36 = .ok (.ireturn, 1) := by decide +kernel
theorem dX2_readComparison_0 : decode cX2_readComparison 0 = .ok (.ldc 67, 2) := by decide +kernel
theorem dX2_readComparison_2 : decode cX2_readComparison 2 = .ok (.aload_n 0, 1) := by decide +kernel
theorem dX2_readComparison_3 : decode cX2_readComparison 3 = .ok (.aload_n 0, 1) := by decide +kernel
theorem dX2_readComparison_4 : decode cX2_readComparison 4 = .ok (.getfield 19, 3) := by decide +kernel
theorem dX2_readComparison_7 : decode cX2_readComparison 7 = .ok (.invokevirtual 53, 3) := by decide +kernel
theorem dX2_readComparison_10 : decode cX2_readComparison 10 = .ok (.invokevirtual 69, 3) := by decide +kernel
theorem dX2_readComparison_13 : decode cX2_readComparison 13 = .ok (.istore_n 1, 1) := by decide +kernel
theorem dX2_readComparison_14 : decode cX2_readComparison 14 = .ok (.iload_n 1, 1) := by decide +kernel
theorem dX2_readComparison_15 : decode cX2_readComparison 15 = .ok (.ifCond .ge 5, 3) := by decide +kernel
theorem dX2_readComparison_18 : decode cX2_readComparison 18 = .ok (.iconst 0, 1) := by decide +kernel
theorem dX2_readComparison_19 : decode cX2_readComparison 19 = .ok (.ireturn, 1) := by decide +kernel
theorem dX2_readComparison_20 : decode cX2_readComparison 20 = .ok (.aload_n 0, 1) := by decide +kernel
theorem dX2_readComparison_21 : decode cX2_readComparison 21 = .ok (.dup, 1) := by decide +kernel
theorem dX2_readComparison_22 : decode cX2_readComparison 22 = .ok (.getfield 19, 3) := by decide +kernel
theorem dX2_readComparison_25 : decode cX2_readComparison 25 = .ok (.iconst 1, 1) := by decide +kernel
theorem dX2_readComparison_26 : decode cX2_readComparison 26 = .ok (.iadd, 1) := by decide +kernel
theorem dX2_readComparison_27 : decode cX2_readComparison 27 = .ok (.putfield 19, 3) := by decide +kernel
theorem dX2_readComparison_30 : decode cX2_readComparison 30 = .ok (.ldc 75, 2) := by decide +kernel
theorem dX2_readComparison_32 : decode cX2_readComparison 32 = .ok (.aload_n 0, 1) := by decide +kernel
theorem dX2_readComparison_33 : decode cX2_readComparison 33 = .ok (.aload_n 0, 1) := by decide +kernel
theorem dX2_readComparison_34 : decode cX2_readComparison 34 = .ok (.getfield 19, 3) := by decide +kernel
theorem dX2_readComparison_37 : decode cX2_readComparison 37 = .ok (.invokevirtual 53, 3) := by decide +kernel
theorem dX2_readComparison_40 : decode cX2_readComparison 40 = .ok (.invokevirtual 69, 3) := by decide +kernel
theorem dX2_readComparison_43 : decode cX2_readComparison 43 = .ok (.istore_n 2, 1) := by decide +kernel
theorem dX2_readComparison_44 : decode cX2_readComparison 44 = .ok (.iload_n 2, 1) := by decide +kernel
theorem dX2_readComparison_45 : decode cX2_readComparison 45 = .ok (.ifCond .ge 5, 3) := by decide +kernel
theorem dX2_readComparison_48 : decode cX2_readComparison 48 = .ok (.iconst 0, 1) := by decide +kernel
theorem dX2_readComparison_49 : decode cX2_readComparison 49 = .ok (.ireturn, 1) := by decide +kernel
theorem dX2_readComparison_50 : decode cX2_readComparison 50 = .ok (.aload_n 0, 1) := by decide +kernel
theorem dX2_readComparison_51 : decode cX2_readComparison 51 = .ok (.dup, 1) := by decide +kernel
theorem dX2_readComparison_52 : decode cX2_readComparison 52 = .ok (.getfield 19, 3) := by decide +kernel
theorem dX2_readComparison_55 : decode cX2_readComparison 55 = .ok (.iconst 1, 1) := by decide +kernel
theorem dX2_readComparison_56 : decode cX2_readComparison 56 = .ok (.iadd, 1) := by decide +kernel
theorem dX2_readComparison_57 : decode cX2_readComparison 57 = .ok (.putfield 19, 3) := by decide +kernel
theorem dX2_readComparison_60 : decode cX2_readComparison 60 = .ok (.aload_n 0, 1) := by decide +kernel
theorem dX2_readComparison_61 : decode cX2_readComparison 61 = .ok (.aload_n 0, 1) := by decide +kernel
theorem dX2_readComparison_62 : decode cX2_readComparison 62 = .ok (.getfield 19, 3) := by decide +kernel
theorem dX2_readComparison_65 : decode cX2_readComparison 65 = .ok (.invokevirtual 53, 3) := by decide +kernel
theorem dX2_readComparison_68 : decode cX2_readComparison 68 = .ok (.bipush 45, 2) := by decide +kernel
theorem dX2_readComparison_70 : decode cX2_readComparison 70 = .ok (.if_icmp .ne 7, 3) := by decide +kernel
theorem dX2_readComparison_73 : decode cX2_readComparison 73 = .ok (.iconst 1, 1) := by decide +kernel
theorem dX2_readComparison_74 : decode cX2_readComparison 74 = .ok (.goto 4, 3) := by decide +kernel
theorem dX2_readComparison_77 : decode cX2_readComparison 77 = .ok (.iconst 0, 1) := by decide +kernel
theorem dX2_readComparison_78 : decode cX2_readComparison 78 = .ok (.istore_n 3, 1) := by decide +kernel
theorem dX2_readComparison_79 : decode cX2_readComparison 79 = .ok (.iload_n 3, 1) := by decide +kernel
theorem dX2_readComparison_80 : decode cX2_readComparison 80 = .ok (.ifCond .eq 13, 3) := by decide +kernel
theorem dX2_readComparison_83 : decode cX2_readComparison 83 = .ok (.aload_n 0, 1) := by decide +kernel
theorem dX2_readComparison_84 : decode cX2_readComparison 84 = .ok (.dup, 1) := by decide +kernel
theorem dX2_readComparison_85 : decode cX2_readComparison 85 = .ok (.getfield 19, 3) := by decide +kernel
theorem dX2_readComparison_88 : decode cX2_readComparison 88 = .ok (.iconst 1, 1) := by decide +kernel
theorem dX2_readComparison_89 : decode cX2_readComparison 89 = .ok (.iadd, 1) := by decide +kernel
theorem dX2_readComparison_90 : decode cX2_readComparison 90 = .ok (.putfield 19, 3) := by decide +kernel
theorem dX2_readComparison_93 : decode cX2_readComparison 93 = .ok (.aload_n 0, 1) := by decide +kernel
theorem dX2_readComparison_94 : decode cX2_readComparison 94 = .ok (.aload_n 0, 1) := by decide +kernel
theorem dX2_readComparison_95 : decode cX2_readComparison 95 = .ok (.getfield 19, 3) := by decide +kernel
theorem dX2_readComparison_98 : decode cX2_readComparison 98 = .ok (.invokevirtual 53, 3) := by decide +kernel
theorem dX2_readComparison_101 : decode cX2_readComparison 101 = .ok (.invokestatic 77, 3) := by decide +kernel
theorem dX2_readComparison_104 : decode cX2_readComparison 104 = .ok (.ifCond .ne 5, 3) := by decide +kernel
theorem dX2_readComparison_107 : decode cX2_readComparison 107 = .ok (.iconst 0, 1) := by decide +kernel
theorem dX2_readComparison_108 : decode cX2_readComparison 108 = .ok (.ireturn, 1) := by decide +kernel
theorem dX2_readComparison_109 : decode cX2_readComparison 109 = .ok (.aload_n 0, 1) := by decide +kernel
theorem dX2_readComparison_110 : decode cX2_readComparison 110 = .ok (.invokevirtual 81, 3) := by decide +kernel
theorem dX2_readComparison_113 : decode cX2_readComparison 113 = .ok (.istore 4, 2) := by decide +kernel
theorem dX2_readComparison_115 : decode cX2_readComparison 115 = .ok (.aload_n 0, 1) := by decide +kernel
theorem dX2_readComparison_116 : decode cX2_readComparison 116 = .ok (.getfield 35, 3) := by decide +kernel
theorem dX2_readComparison_119 : decode cX2_readComparison 119 = .ok (.iload_n 1, 1) := by decide +kernel
theorem dX2_readComparison_120 : decode cX2_readComparison 120 = .ok (.iload_n 2, 1) := by decide +kernel
theorem dX2_readComparison_121 : decode cX2_readComparison 121 = .ok (.invokestatic 84, 3) := by decide +kernel
theorem dX2_readComparison_124 : decode cX2_readComparison 124 = .ok (.iload_n 3, 1) := by decide +kernel
theorem dX2_readComparison_125 : decode cX2_readComparison 125 = .ok (.ifCond .eq 9, 3) := by decide +kernel
theorem dX2_readComparison_128 : decode cX2_readComparison 128 = .ok (.iload 4, 2) := by decide +kernel
theorem dX2_readComparison_130 : decode cX2_readComparison 130 = .ok (.ineg, 1) := by decide +kernel
theorem dX2_readComparison_131 : decode cX2_readComparison 131 = .ok (.goto 5, 3) := by decide +kernel
theorem dX2_readComparison_134 : decode cX2_readComparison 134 = .ok (.iload 4, 2) := by decide +kernel
theorem dX2_readComparison_136 : decode cX2_readComparison 136 = .ok (.invokevirtual 88, 3) := by decide +kernel
theorem dX2_readComparison_139 : decode cX2_readComparison 139 = .ok (.iconst 1, 1) := by decide +kernel
theorem dX2_readComparison_140 : decode cX2_readComparison 140 = .ok (.ireturn, 1) := by decide +kernel
theorem dX2_readDigits_0 : decode cX2_readDigits 0 = .ok (.iconst 0, 1) := by decide +kernel
theorem dX2_readDigits_1 : decode cX2_readDigits 1 = .ok (.istore_n 1, 1) := by decide +kernel
theorem dX2_readDigits_2 : decode cX2_readDigits 2 = .ok (.iconst 0, 1) := by decide +kernel
theorem dX2_readDigits_3 : decode cX2_readDigits 3 = .ok (.istore_n 2, 1) := by decide +kernel
theorem dX2_readDigits_4 : decode cX2_readDigits 4 = .ok (.iload_n 2, 1) := by decide +kernel
theorem dX2_readDigits_5 : decode cX2_readDigits 5 = .ok (.iconst 3, 1) := by decide +kernel
theorem dX2_readDigits_6 : decode cX2_readDigits 6 = .ok (.if_icmp .ge 50, 3) := by decide +kernel
theorem dX2_readDigits_9 : decode cX2_readDigits 9 = .ok (.aload_n 0, 1) := by decide +kernel
theorem dX2_readDigits_10 : decode cX2_readDigits 10 = .ok (.aload_n 0, 1) := by decide +kernel
theorem dX2_readDigits_11 : decode cX2_readDigits 11 = .ok (.getfield 19, 3) := by decide +kernel
theorem dX2_readDigits_14 : decode cX2_readDigits 14 = .ok (.invokevirtual 53, 3) := by decide +kernel
theorem dX2_readDigits_17 : decode cX2_readDigits 17 = .ok (.invokestatic 77, 3) := by decide +kernel
theorem dX2_readDigits_20 : decode cX2_readDigits 20 = .ok (.ifCond .eq 36, 3) := by decide +kernel
theorem dX2_readDigits_23 : decode cX2_readDigits 23 = .ok (.iload_n 1, 1) := by decide +kernel
theorem dX2_readDigits_24 : decode cX2_readDigits 24 = .ok (.bipush 10, 2) := by decide +kernel
theorem dX2_readDigits_26 : decode cX2_readDigits 26 = .ok (.imul, 1) := by decide +kernel
theorem dX2_readDigits_27 : decode cX2_readDigits 27 = .ok (.aload_n 0, 1) := by decide +kernel
theorem dX2_readDigits_28 : decode cX2_readDigits 28 = .ok (.aload_n 0, 1) := by decide +kernel
theorem dX2_readDigits_29 : decode cX2_readDigits 29 = .ok (.getfield 19, 3) := by decide +kernel
theorem dX2_readDigits_32 : decode cX2_readDigits 32 = .ok (.invokevirtual 53, 3) := by decide +kernel
theorem dX2_readDigits_35 : decode cX2_readDigits 35 = .ok (.bipush 48, 2) := by decide +kernel
theorem dX2_readDigits_37 : decode cX2_readDigits 37 = .ok (.isub, 1) := by decide +kernel
theorem dX2_readDigits_38 : decode cX2_readDigits 38 = .ok (.iadd, 1) := by decide +kernel
theorem dX2_readDigits_39 : decode cX2_readDigits 39 = .ok (.istore_n 1, 1) := by decide +kernel
theorem dX2_readDigits_40 : decode cX2_readDigits 40 = .ok (.aload_n 0, 1) := by decide +kernel
theorem dX2_readDigits_41 : decode cX2_readDigits 41 = .ok (.dup, 1) := by decide +kernel
theorem dX2_readDigits_42 : decode cX2_readDigits 42 = .ok (.getfield 19, 3) := by decide +kernel
theorem dX2_readDigits_45 : decode cX2_readDigits 45 = .ok (.iconst 1, 1) := by decide +kernel
theorem dX2_readDigits_46 : decode cX2_readDigits 46 = .ok (.iadd, 1) := by decide +kernel
theorem dX2_readDigits_47 : decode cX2_readDigits 47 = .ok (.putfield 19, 3) := by decide +kernel
theorem dX2_readDigits_50 : decode cX2_readDigits 50 = .ok (.iinc 2 1, 3) := by decide +kernel
theorem dX2_readDigits_53 : decode cX2_readDigits 53 = .ok (.goto (-49), 3) := by decide +kernel
theorem dX2_readDigits_56 : decode cX2_readDigits 56 = .ok (.iload_n 1, 1) := by decide +kernel
theorem dX2_readDigits_57 : decode cX2_readDigits 57 = .ok (.ireturn, 1) := by decide +kernel
theorem dX2_holdBack_0 : decode cX2_holdBack 0 = .ok (.aload_n 0, 1) := by decide +kernel
theorem dX2_holdBack_1 : decode cX2_holdBack 1 = .ok (.getfield 26, 3) := by decide +kernel
theorem dX2_holdBack_4 : decode cX2_holdBack 4 = .ok (.ifCond .lt 35, 3) := by decide +kernel
theorem dX2_holdBack_7 : decode cX2_holdBack 7 = .ok (.aload_n 0, 1) := by decide +kernel
theorem dX2_holdBack_8 : decode cX2_holdBack 8 = .ok (.getfield 26, 3) := by decide +kernel
theorem dX2_holdBack_11 : decode cX2_holdBack 11 = .ok (.aload_n 0, 1) := by decide +kernel
theorem dX2_holdBack_12 : decode cX2_holdBack 12 = .ok (.getfield 22, 3) := by decide +kernel
theorem dX2_holdBack_15 : decode cX2_holdBack 15 = .ok (.arraylength, 1) := by decide +kernel
theorem dX2_holdBack_16 : decode cX2_holdBack 16 = .ok (.if_icmp .ge 23, 3) := by decide +kernel
theorem dX2_holdBack_19 : decode cX2_holdBack 19 = .ok (.aload_n 0, 1) := by decide +kernel
theorem dX2_holdBack_20 : decode cX2_holdBack 20 = .ok (.getfield 22, 3) := by decide +kernel
theorem dX2_holdBack_23 : decode cX2_holdBack 23 = .ok (.aload_n 0, 1) := by decide +kernel
theorem dX2_holdBack_24 : decode cX2_holdBack 24 = .ok (.getfield 26, 3) := by decide +kernel
theorem dX2_holdBack_27 : decode cX2_holdBack 27 = .ok (.iload_n 1, 1) := by decide +kernel
theorem dX2_holdBack_28 : decode cX2_holdBack 28 = .ok (.iastore, 1) := by decide +kernel
theorem dX2_holdBack_29 : decode cX2_holdBack 29 = .ok (.aload_n 0, 1) := by decide +kernel
theorem dX2_holdBack_30 : decode cX2_holdBack 30 = .ok (.dup, 1) := by decide +kernel
theorem dX2_holdBack_31 : decode cX2_holdBack 31 = .ok (.getfield 26, 3) := by decide +kernel
theorem dX2_holdBack_34 : decode cX2_holdBack 34 = .ok (.iconst 1, 1) := by decide +kernel
theorem dX2_holdBack_35 : decode cX2_holdBack 35 = .ok (.iadd, 1) := by decide +kernel
theorem dX2_holdBack_36 : decode cX2_holdBack 36 = .ok (.putfield 26, 3) := by decide +kernel
theorem dX2_holdBack_39 : decode cX2_holdBack 39 = .ok (.aload_n 0, 1) := by decide +kernel
theorem dX2_holdBack_40 : decode cX2_holdBack 40 = .ok (.dup, 1) := by decide +kernel
theorem dX2_holdBack_41 : decode cX2_holdBack 41 = .ok (.getfield 19, 3) := by decide +kernel
theorem dX2_holdBack_44 : decode cX2_holdBack 44 = .ok (.iconst 1, 1) := by decide +kernel
theorem dX2_holdBack_45 : decode cX2_holdBack 45 = .ok (.iadd, 1) := by decide +kernel
theorem dX2_holdBack_46 : decode cX2_holdBack 46 = .ok (.putfield 19, 3) := by decide +kernel
theorem dX2_holdBack_49 : decode cX2_holdBack 49 = .ok (.return_, 1) := by decide +kernel
theorem dX2_moveWaiting_0 : decode cX2_moveWaiting 0 = .ok (.aload_n 0, 1) := by decide +kernel
theorem dX2_moveWaiting_1 : decode cX2_moveWaiting 1 = .ok (.getfield 26, 3) := by decide +kernel
theorem dX2_moveWaiting_4 : decode cX2_moveWaiting 4 = .ok (.iconst 1, 1) := by decide +kernel
theorem dX2_moveWaiting_5 : decode cX2_moveWaiting 5 = .ok (.isub, 1) := by decide +kernel
theorem dX2_moveWaiting_6 : decode cX2_moveWaiting 6 = .ok (.istore_n 2, 1) := by decide +kernel
theorem dX2_moveWaiting_7 : decode cX2_moveWaiting 7 = .ok (.iload_n 2, 1) := by decide +kernel
theorem dX2_moveWaiting_8 : decode cX2_moveWaiting 8 = .ok (.ifCond .lt 48, 3) := by decide +kernel
theorem dX2_moveWaiting_11 : decode cX2_moveWaiting 11 = .ok (.iload_n 2, 1) := by decide +kernel
theorem dX2_moveWaiting_12 : decode cX2_moveWaiting 12 = .ok (.aload_n 0, 1) := by decide +kernel
theorem dX2_moveWaiting_13 : decode cX2_moveWaiting 13 = .ok (.getfield 22, 3) := by decide +kernel
theorem dX2_moveWaiting_16 : decode cX2_moveWaiting 16 = .ok (.arraylength, 1) := by decide +kernel
theorem dX2_moveWaiting_17 : decode cX2_moveWaiting 17 = .ok (.if_icmp .ge 39, 3) := by decide +kernel
theorem dX2_moveWaiting_20 : decode cX2_moveWaiting 20 = .ok (.aload_n 0, 1) := by decide +kernel
theorem dX2_moveWaiting_21 : decode cX2_moveWaiting 21 = .ok (.getfield 22, 3) := by decide +kernel
theorem dX2_moveWaiting_24 : decode cX2_moveWaiting 24 = .ok (.iload_n 2, 1) := by decide +kernel
theorem dX2_moveWaiting_25 : decode cX2_moveWaiting 25 = .ok (.iaload, 1) := by decide +kernel
theorem dX2_moveWaiting_26 : decode cX2_moveWaiting 26 = .ok (.iload_n 1, 1) := by decide +kernel
theorem dX2_moveWaiting_27 : decode cX2_moveWaiting 27 = .ok (.if_icmp .ge 4, 3) := by decide +kernel
theorem dX2_moveWaiting_30 : decode cX2_moveWaiting 30 = .ok (.return_, 1) := by decide +kernel
theorem dX2_moveWaiting_31 : decode cX2_moveWaiting 31 = .ok (.aload_n 0, 1) := by decide +kernel
theorem dX2_moveWaiting_32 : decode cX2_moveWaiting 32 = .ok (.getfield 35, 3) := by decide +kernel
theorem dX2_moveWaiting_35 : decode cX2_moveWaiting 35 = .ok (.aload_n 0, 1) := by decide +kernel
theorem dX2_moveWaiting_36 : decode cX2_moveWaiting 36 = .ok (.getfield 22, 3) := by decide +kernel
theorem dX2_moveWaiting_39 : decode cX2_moveWaiting 39 = .ok (.iload_n 2, 1) := by decide +kernel
theorem dX2_moveWaiting_40 : decode cX2_moveWaiting 40 = .ok (.iaload, 1) := by decide +kernel
theorem dX2_moveWaiting_41 : decode cX2_moveWaiting 41 = .ok (.iconst 0, 1) := by decide +kernel
theorem dX2_moveWaiting_42 : decode cX2_moveWaiting 42 = .ok (.invokevirtual 88, 3) := by decide +kernel
theorem dX2_moveWaiting_45 : decode cX2_moveWaiting 45 = .ok (.aload_n 0, 1) := by decide +kernel
theorem dX2_moveWaiting_46 : decode cX2_moveWaiting 46 = .ok (.iload_n 2, 1) := by decide +kernel
theorem dX2_moveWaiting_47 : decode cX2_moveWaiting 47 = .ok (.putfield 26, 3) := by decide +kernel
theorem dX2_moveWaiting_50 : decode cX2_moveWaiting 50 = .ok (.iinc 2 (-1), 3) := by decide +kernel
theorem dX2_moveWaiting_53 : decode cX2_moveWaiting 53 = .ok (.goto (-46), 3) := by decide +kernel
theorem dX2_moveWaiting_56 : decode cX2_moveWaiting 56 = .ok (.return_, 1) := by decide +kernel
theorem dX2_characterAt_0 : decode cX2_characterAt 0 = .ok (.iload_n 1, 1) := by decide +kernel
theorem dX2_characterAt_1 : decode cX2_characterAt 1 = .ok (.ifCond .lt 29, 3) := by decide +kernel
theorem dX2_characterAt_4 : decode cX2_characterAt 4 = .ok (.iload_n 1, 1) := by decide +kernel
theorem dX2_characterAt_5 : decode cX2_characterAt 5 = .ok (.aload_n 0, 1) := by decide +kernel
theorem dX2_characterAt_6 : decode cX2_characterAt 6 = .ok (.getfield 15, 3) := by decide +kernel
theorem dX2_characterAt_9 : decode cX2_characterAt 9 = .ok (.if_icmp .ge 21, 3) := by decide +kernel
theorem dX2_characterAt_12 : decode cX2_characterAt 12 = .ok (.iload_n 1, 1) := by decide +kernel
theorem dX2_characterAt_13 : decode cX2_characterAt 13 = .ok (.aload_n 0, 1) := by decide +kernel
theorem dX2_characterAt_14 : decode cX2_characterAt 14 = .ok (.getfield 9, 3) := by decide +kernel
theorem dX2_characterAt_17 : decode cX2_characterAt 17 = .ok (.arraylength, 1) := by decide +kernel
theorem dX2_characterAt_18 : decode cX2_characterAt 18 = .ok (.if_icmp .ge 12, 3) := by decide +kernel
theorem dX2_characterAt_21 : decode cX2_characterAt 21 = .ok (.aload_n 0, 1) := by decide +kernel
theorem dX2_characterAt_22 : decode cX2_characterAt 22 = .ok (.getfield 9, 3) := by decide +kernel
theorem dX2_characterAt_25 : decode cX2_characterAt 25 = .ok (.iload_n 1, 1) := by decide +kernel
theorem dX2_characterAt_26 : decode cX2_characterAt 26 = .ok (.caload, 1) := by decide +kernel
theorem dX2_characterAt_27 : decode cX2_characterAt 27 = .ok (.goto 4, 3) := by decide +kernel
theorem dX2_characterAt_30 : decode cX2_characterAt 30 = .ok (.iconst 0, 1) := by decide +kernel
theorem dX2_characterAt_31 : decode cX2_characterAt 31 = .ok (.ireturn, 1) := by decide +kernel
theorem dX2_isDigit_0 : decode cX2_isDigit 0 = .ok (.iload_n 0, 1) := by decide +kernel
theorem dX2_isDigit_1 : decode cX2_isDigit 1 = .ok (.bipush 48, 2) := by decide +kernel
theorem dX2_isDigit_3 : decode cX2_isDigit 3 = .ok (.if_icmp .lt 13, 3) := by decide +kernel
theorem dX2_isDigit_6 : decode cX2_isDigit 6 = .ok (.iload_n 0, 1) := by decide +kernel
theorem dX2_isDigit_7 : decode cX2_isDigit 7 = .ok (.bipush 57, 2) := by decide +kernel
theorem dX2_isDigit_9 : decode cX2_isDigit 9 = .ok (.if_icmp .gt 7, 3) := by decide +kernel
theorem dX2_isDigit_12 : decode cX2_isDigit 12 = .ok (.iconst 1, 1) := by decide +kernel
theorem dX2_isDigit_13 : decode cX2_isDigit 13 = .ok (.goto 4, 3) := by decide +kernel
theorem dX2_isDigit_16 : decode cX2_isDigit 16 = .ok (.iconst 0, 1) := by decide +kernel
theorem dX2_isDigit_17 : decode cX2_isDigit 17 = .ok (.ireturn, 1) := by decide +kernel
theorem dX3_init_0 : decode cX3_init 0 = .ok (.aload_n 0, 1) := by decide +kernel
theorem dX3_init_1 : decode cX3_init 1 = .ok (.invokespecial 3, 3) := by decide +kernel
theorem dX3_init_4 : decode cX3_init 4 = .ok (.aload_n 0, 1) := by decide +kernel
theorem dX3_init_5 : decode cX3_init 5 = .ok (.bipush 6, 2) := by decide +kernel
theorem dX3_init_7 : decode cX3_init 7 = .ok (.newarray .int, 2) := by decide +kernel
theorem dX3_init_9 : decode cX3_init 9 = .ok (.putfield 9, 3) := by decide +kernel
theorem dX3_init_12 : decode cX3_init 12 = .ok (.aload_n 0, 1) := by decide +kernel
theorem dX3_init_13 : decode cX3_init 13 = .ok (.bipush 6, 2) := by decide +kernel
theorem dX3_init_15 : decode cX3_init 15 = .ok (.newarray .int, 2) := by decide +kernel
theorem dX3_init_17 : decode cX3_init 17 = .ok (.putfield 15, 3) := by decide +kernel
theorem dX3_init_20 : decode cX3_init 20 = .ok (.return_, 1) := by decide +kernel
theorem dX3_sizeOf_0 : decode cX3_sizeOf 0 = .ok (.iload_n 1, 1) := by decide +kernel
theorem dX3_sizeOf_1 : decode cX3_sizeOf 1 = .ok (.ifCond .lt 21, 3) := by decide +kernel
theorem dX3_sizeOf_4 : decode cX3_sizeOf 4 = .ok (.iload_n 1, 1) := by decide +kernel
theorem dX3_sizeOf_5 : decode cX3_sizeOf 5 = .ok (.aload_n 0, 1) := by decide +kernel
theorem dX3_sizeOf_6 : decode cX3_sizeOf 6 = .ok (.getfield 9, 3) := by decide +kernel
theorem dX3_sizeOf_9 : decode cX3_sizeOf 9 = .ok (.arraylength, 1) := by decide +kernel
theorem dX3_sizeOf_10 : decode cX3_sizeOf 10 = .ok (.if_icmp .ge 12, 3) := by decide +kernel
theorem dX3_sizeOf_13 : decode cX3_sizeOf 13 = .ok (.aload_n 0, 1) := by decide +kernel
theorem dX3_sizeOf_14 : decode cX3_sizeOf 14 = .ok (.getfield 9, 3) := by decide +kernel
theorem dX3_sizeOf_17 : decode cX3_sizeOf 17 = .ok (.iload_n 1, 1) := by decide +kernel
theorem dX3_sizeOf_18 : decode cX3_sizeOf 18 = .ok (.iaload, 1) := by decide +kernel
theorem dX3_sizeOf_19 : decode cX3_sizeOf 19 = .ok (.goto 4, 3) := by decide +kernel
theorem dX3_sizeOf_22 : decode cX3_sizeOf 22 = .ok (.iconst 0, 1) := by decide +kernel
theorem dX3_sizeOf_23 : decode cX3_sizeOf 23 = .ok (.ireturn, 1) := by decide +kernel
theorem dX3_sumOf_0 : decode cX3_sumOf 0 = .ok (.iload_n 1, 1) := by decide +kernel
theorem dX3_sumOf_1 : decode cX3_sumOf 1 = .ok (.ifCond .lt 21, 3) := by decide +kernel
theorem dX3_sumOf_4 : decode cX3_sumOf 4 = .ok (.iload_n 1, 1) := by decide +kernel
theorem dX3_sumOf_5 : decode cX3_sumOf 5 = .ok (.aload_n 0, 1) := by decide +kernel
theorem dX3_sumOf_6 : decode cX3_sumOf 6 = .ok (.getfield 15, 3) := by decide +kernel
theorem dX3_sumOf_9 : decode cX3_sumOf 9 = .ok (.arraylength, 1) := by decide +kernel
theorem dX3_sumOf_10 : decode cX3_sumOf 10 = .ok (.if_icmp .ge 12, 3) := by decide +kernel
theorem dX3_sumOf_13 : decode cX3_sumOf 13 = .ok (.aload_n 0, 1) := by decide +kernel
theorem dX3_sumOf_14 : decode cX3_sumOf 14 = .ok (.getfield 15, 3) := by decide +kernel
theorem dX3_sumOf_17 : decode cX3_sumOf 17 = .ok (.iload_n 1, 1) := by decide +kernel
theorem dX3_sumOf_18 : decode cX3_sumOf 18 = .ok (.iaload, 1) := by decide +kernel
theorem dX3_sumOf_19 : decode cX3_sumOf 19 = .ok (.goto 4, 3) := by decide +kernel
theorem dX3_sumOf_22 : decode cX3_sumOf 22 = .ok (.iconst 0, 1) := by decide +kernel
theorem dX3_sumOf_23 : decode cX3_sumOf 23 = .ok (.ireturn, 1) := by decide +kernel
theorem dX3_reaches_0 : decode cX3_reaches 0 = .ok (.aload_n 0, 1) := by decide +kernel
theorem dX3_reaches_1 : decode cX3_reaches 1 = .ok (.iload_n 1, 1) := by decide +kernel
theorem dX3_reaches_2 : decode cX3_reaches 2 = .ok (.invokevirtual 18, 3) := by decide +kernel
theorem dX3_reaches_5 : decode cX3_reaches 5 = .ok (.ifCond .le 16, 3) := by decide +kernel
theorem dX3_reaches_8 : decode cX3_reaches 8 = .ok (.aload_n 0, 1) := by decide +kernel
theorem dX3_reaches_9 : decode cX3_reaches 9 = .ok (.iload_n 1, 1) := by decide +kernel
theorem dX3_reaches_10 : decode cX3_reaches 10 = .ok (.invokevirtual 22, 3) := by decide +kernel
theorem dX3_reaches_13 : decode cX3_reaches 13 = .ok (.iload_n 2, 1) := by decide +kernel
theorem dX3_reaches_14 : decode cX3_reaches 14 = .ok (.if_icmp .lt 7, 3) := by decide +kernel
theorem dX3_reaches_17 : decode cX3_reaches 17 = .ok (.iconst 1, 1) := by decide +kernel
theorem dX3_reaches_18 : decode cX3_reaches 18 = .ok (.goto 4, 3) := by decide +kernel
theorem dX3_reaches_21 : decode cX3_reaches 21 = .ok (.iconst 0, 1) := by decide +kernel
theorem dX3_reaches_22 : decode cX3_reaches 22 = .ok (.ireturn, 1) := by decide +kernel
theorem dX3_groupOfRank_0 : decode cX3_groupOfRank 0 = .ok (.iconst 0, 1) := by decide +kernel
theorem dX3_groupOfRank_1 : decode cX3_groupOfRank 1 = .ok (.istore_n 2, 1) := by decide +kernel
theorem dX3_groupOfRank_2 : decode cX3_groupOfRank 2 = .ok (.iload_n 2, 1) := by decide +kernel
theorem dX3_groupOfRank_3 : decode cX3_groupOfRank 3 = .ok (.bipush 6, 2) := by decide +kernel
theorem dX3_groupOfRank_5 : decode cX3_groupOfRank 5 = .ok (.if_icmp .ge 28, 3) := by decide +kernel
theorem dX3_groupOfRank_8 : decode cX3_groupOfRank 8 = .ok (.aload_n 0, 1) := by decide +kernel
theorem dX3_groupOfRank_9 : decode cX3_groupOfRank 9 = .ok (.iload_n 2, 1) := by decide +kernel
theorem dX3_groupOfRank_10 : decode cX3_groupOfRank 10 = .ok (.invokevirtual 18, 3) := by decide +kernel
theorem dX3_groupOfRank_13 : decode cX3_groupOfRank 13 = .ok (.ifCond .le 14, 3) := by decide +kernel
theorem dX3_groupOfRank_16 : decode cX3_groupOfRank 16 = .ok (.aload_n 0, 1) := by decide +kernel
theorem dX3_groupOfRank_17 : decode cX3_groupOfRank 17 = .ok (.iload_n 2, 1) := by decide +kernel
theorem dX3_groupOfRank_18 : decode cX3_groupOfRank 18 = .ok (.invokevirtual 25, 3) := by decide +kernel
theorem dX3_groupOfRank_21 : decode cX3_groupOfRank 21 = .ok (.iload_n 1, 1) := by decide +kernel
theorem dX3_groupOfRank_22 : decode cX3_groupOfRank 22 = .ok (.if_icmp .ne 5, 3) := by decide +kernel
theorem dX3_groupOfRank_25 : decode cX3_groupOfRank 25 = .ok (.iload_n 2, 1) := by decide +kernel
theorem dX3_groupOfRank_26 : decode cX3_groupOfRank 26 = .ok (.ireturn, 1) := by decide +kernel
theorem dX3_groupOfRank_27 : decode cX3_groupOfRank 27 = .ok (.iinc 2 1, 3) := by decide +kernel
theorem dX3_groupOfRank_30 : decode cX3_groupOfRank 30 = .ok (.goto (-28), 3) := by decide +kernel
theorem dX3_groupOfRank_33 : decode cX3_groupOfRank 33 = .ok (.iconst (-1), 1) := by decide +kernel
theorem dX3_groupOfRank_34 : decode cX3_groupOfRank 34 = .ok (.ireturn, 1) := by decide +kernel
theorem dX3_sumUp_0 : decode cX3_sumUp 0 = .ok (.aload_n 0, 1) := by decide +kernel
theorem dX3_sumUp_1 : decode cX3_sumUp 1 = .ok (.getfield 9, 3) := by decide +kernel
theorem dX3_sumUp_4 : decode cX3_sumUp 4 = .ok (.iconst 0, 1) := by decide +kernel
theorem dX3_sumUp_5 : decode cX3_sumUp 5 = .ok (.invokestatic 28, 3) := by decide +kernel
theorem dX3_sumUp_8 : decode cX3_sumUp 8 = .ok (.aload_n 0, 1) := by decide +kernel
theorem dX3_sumUp_9 : decode cX3_sumUp 9 = .ok (.getfield 15, 3) := by decide +kernel
theorem dX3_sumUp_12 : decode cX3_sumUp 12 = .ok (.iconst 0, 1) := by decide +kernel
theorem dX3_sumUp_13 : decode cX3_sumUp 13 = .ok (.invokestatic 28, 3) := by decide +kernel
theorem dX3_sumUp_16 : decode cX3_sumUp 16 = .ok (.iconst 0, 1) := by decide +kernel
theorem dX3_sumUp_17 : decode cX3_sumUp 17 = .ok (.istore_n 2, 1) := by decide +kernel
theorem dX3_sumUp_18 : decode cX3_sumUp 18 = .ok (.iload_n 2, 1) := by decide +kernel
theorem dX3_sumUp_19 : decode cX3_sumUp 19 = .ok (.aload_n 1, 1) := by decide +kernel
theorem dX3_sumUp_20 : decode cX3_sumUp 20 = .ok (.invokevirtual 34, 3) := by decide +kernel
theorem dX3_sumUp_23 : decode cX3_sumUp 23 = .ok (.if_icmp .ge 81, 3) := by decide +kernel
theorem dX3_sumUp_26 : decode cX3_sumUp 26 = .ok (.aload_n 1, 1) := by decide +kernel
theorem dX3_sumUp_27 : decode cX3_sumUp 27 = .ok (.iload_n 2, 1) := by decide +kernel
theorem dX3_sumUp_28 : decode cX3_sumUp 28 = .ok (.invokevirtual 40, 3) := by decide +kernel
theorem dX3_sumUp_31 : decode cX3_sumUp 31 = .ok (.istore_n 3, 1) := by decide +kernel
theorem dX3_sumUp_32 : decode cX3_sumUp 32 = .ok (.iload_n 3, 1) := by decide +kernel
theorem dX3_sumUp_33 : decode cX3_sumUp 33 = .ok (.invokestatic 43, 3) := by decide +kernel
theorem dX3_sumUp_36 : decode cX3_sumUp 36 = .ok (.istore 4, 2) := by decide +kernel
theorem dX3_sumUp_38 : decode cX3_sumUp 38 = .ok (.iload 4, 2) := by decide +kernel
theorem dX3_sumUp_40 : decode cX3_sumUp 40 = .ok (.ifCond .lt 58, 3) := by decide +kernel
theorem dX3_sumUp_43 : decode cX3_sumUp 43 = .ok (.iload 4, 2) := by decide +kernel
theorem dX3_sumUp_45 : decode cX3_sumUp 45 = .ok (.aload_n 0, 1) := by decide +kernel
theorem dX3_sumUp_46 : decode cX3_sumUp 46 = .ok (.getfield 9, 3) := by decide +kernel
theorem dX3_sumUp_49 : decode cX3_sumUp 49 = .ok (.arraylength, 1) := by decide +kernel
theorem dX3_sumUp_50 : decode cX3_sumUp 50 = .ok (.if_icmp .ge 48, 3) := by decide +kernel
theorem dX3_sumUp_53 : decode cX3_sumUp 53 = .ok (.iload 4, 2) := by decide +kernel
theorem dX3_sumUp_55 : decode cX3_sumUp 55 = .ok (.aload_n 0, 1) := by decide +kernel
theorem dX3_sumUp_56 : decode cX3_sumUp 56 = .ok (.getfield 15, 3) := by decide +kernel
theorem dX3_sumUp_59 : decode cX3_sumUp 59 = .ok (.arraylength, 1) := by decide +kernel
theorem dX3_sumUp_60 : decode cX3_sumUp 60 = .ok (.if_icmp .ge 38, 3) := by decide +kernel
theorem dX3_sumUp_63 : decode cX3_sumUp 63 = .ok (.aload_n 0, 1) := by decide +kernel
theorem dX3_sumUp_64 : decode cX3_sumUp 64 = .ok (.getfield 9, 3) := by decide +kernel
theorem dX3_sumUp_67 : decode cX3_sumUp 67 = .ok (.iload 4, 2) := by decide +kernel
theorem dX3_sumUp_69 : decode cX3_sumUp 69 = .ok (.dup2, 1) := by decide +kernel
theorem dX3_sumUp_70 : decode cX3_sumUp 70 = .ok (.iaload, 1) := by decide +kernel
theorem dX3_sumUp_71 : decode cX3_sumUp 71 = .ok (.aload_n 1, 1) := by decide +kernel
theorem dX3_sumUp_72 : decode cX3_sumUp 72 = .ok (.iload_n 2, 1) := by decide +kernel
theorem dX3_sumUp_73 : decode cX3_sumUp 73 = .ok (.invokevirtual 46, 3) := by decide +kernel
theorem dX3_sumUp_76 : decode cX3_sumUp 76 = .ok (.iadd, 1) := by decide +kernel
theorem dX3_sumUp_77 : decode cX3_sumUp 77 = .ok (.iastore, 1) := by decide +kernel
theorem dX3_sumUp_78 : decode cX3_sumUp 78 = .ok (.aload_n 0, 1) := by decide +kernel
theorem dX3_sumUp_79 : decode cX3_sumUp 79 = .ok (.getfield 15, 3) := by decide +kernel
theorem dX3_sumUp_82 : decode cX3_sumUp 82 = .ok (.iload 4, 2) := by decide +kernel
theorem dX3_sumUp_84 : decode cX3_sumUp 84 = .ok (.dup2, 1) := by decide +kernel
theorem dX3_sumUp_85 : decode cX3_sumUp 85 = .ok (.iaload, 1) := by decide +kernel
theorem dX3_sumUp_86 : decode cX3_sumUp 86 = .ok (.aload_n 1, 1) := by decide +kernel
theorem dX3_sumUp_87 : decode cX3_sumUp 87 = .ok (.iload_n 2, 1) := by decide +kernel
theorem dX3_sumUp_88 : decode cX3_sumUp 88 = .ok (.invokevirtual 46, 3) := by decide +kernel
theorem dX3_sumUp_91 : decode cX3_sumUp 91 = .ok (.iload_n 3, 1) := by decide +kernel
theorem dX3_sumUp_92 : decode cX3_sumUp 92 = .ok (.invokestatic 49, 3) := by decide +kernel
theorem dX3_sumUp_95 : decode cX3_sumUp 95 = .ok (.imul, 1) := by decide +kernel
theorem dX3_sumUp_96 : decode cX3_sumUp 96 = .ok (.iadd, 1) := by decide +kernel
theorem dX3_sumUp_97 : decode cX3_sumUp 97 = .ok (.iastore, 1) := by decide +kernel
theorem dX3_sumUp_98 : decode cX3_sumUp 98 = .ok (.iinc 2 1, 3) := by decide +kernel
theorem dX3_sumUp_101 : decode cX3_sumUp 101 = .ok (.goto (-83), 3) := by decide +kernel
theorem dX3_sumUp_104 : decode cX3_sumUp 104 = .ok (.return_, 1) := by decide +kernel
theorem dX3_copyFrom_0 : decode cX3_copyFrom 0 = .ok (.iconst 0, 1) := by decide +kernel
theorem dX3_copyFrom_1 : decode cX3_copyFrom 1 = .ok (.istore_n 2, 1) := by decide +kernel
theorem dX3_copyFrom_2 : decode cX3_copyFrom 2 = .ok (.iload_n 2, 1) := by decide +kernel
theorem dX3_copyFrom_3 : decode cX3_copyFrom 3 = .ok (.aload_n 0, 1) := by decide +kernel
theorem dX3_copyFrom_4 : decode cX3_copyFrom 4 = .ok (.getfield 9, 3) := by decide +kernel
theorem dX3_copyFrom_7 : decode cX3_copyFrom 7 = .ok (.arraylength, 1) := by decide +kernel
theorem dX3_copyFrom_8 : decode cX3_copyFrom 8 = .ok (.if_icmp .ge 40, 3) := by decide +kernel
theorem dX3_copyFrom_11 : decode cX3_copyFrom 11 = .ok (.iload_n 2, 1) := by decide +kernel
theorem dX3_copyFrom_12 : decode cX3_copyFrom 12 = .ok (.aload_n 0, 1) := by decide +kernel
theorem dX3_copyFrom_13 : decode cX3_copyFrom 13 = .ok (.getfield 15, 3) := by decide +kernel
theorem dX3_copyFrom_16 : decode cX3_copyFrom 16 = .ok (.arraylength, 1) := by decide +kernel
theorem dX3_copyFrom_17 : decode cX3_copyFrom 17 = .ok (.if_icmp .ge 31, 3) := by decide +kernel
theorem dX3_copyFrom_20 : decode cX3_copyFrom 20 = .ok (.aload_n 0, 1) := by decide +kernel
theorem dX3_copyFrom_21 : decode cX3_copyFrom 21 = .ok (.getfield 9, 3) := by decide +kernel
theorem dX3_copyFrom_24 : decode cX3_copyFrom 24 = .ok (.iload_n 2, 1) := by decide +kernel
theorem dX3_copyFrom_25 : decode cX3_copyFrom 25 = .ok (.aload_n 1, 1) := by decide +kernel
theorem dX3_copyFrom_26 : decode cX3_copyFrom 26 = .ok (.iload_n 2, 1) := by decide +kernel
theorem dX3_copyFrom_27 : decode cX3_copyFrom 27 = .ok (.invokevirtual 18, 3) := by decide +kernel
theorem dX3_copyFrom_30 : decode cX3_copyFrom 30 = .ok (.iastore, 1) := by decide +kernel
theorem dX3_copyFrom_31 : decode cX3_copyFrom 31 = .ok (.aload_n 0, 1) := by decide +kernel
theorem dX3_copyFrom_32 : decode cX3_copyFrom 32 = .ok (.getfield 15, 3) := by decide +kernel
theorem dX3_copyFrom_35 : decode cX3_copyFrom 35 = .ok (.iload_n 2, 1) := by decide +kernel
theorem dX3_copyFrom_36 : decode cX3_copyFrom 36 = .ok (.aload_n 1, 1) := by decide +kernel
theorem dX3_copyFrom_37 : decode cX3_copyFrom 37 = .ok (.iload_n 2, 1) := by decide +kernel
theorem dX3_copyFrom_38 : decode cX3_copyFrom 38 = .ok (.invokevirtual 22, 3) := by decide +kernel
theorem dX3_copyFrom_41 : decode cX3_copyFrom 41 = .ok (.iastore, 1) := by decide +kernel
theorem dX3_copyFrom_42 : decode cX3_copyFrom 42 = .ok (.iinc 2 1, 3) := by decide +kernel
theorem dX3_copyFrom_45 : decode cX3_copyFrom 45 = .ok (.goto (-43), 3) := by decide +kernel
theorem dX3_copyFrom_48 : decode cX3_copyFrom 48 = .ok (.return_, 1) := by decide +kernel
theorem dX3_rankOf_0 : decode cX3_rankOf 0 = .ok (.iconst 0, 1) := by decide +kernel
theorem dX3_rankOf_1 : decode cX3_rankOf 1 = .ok (.istore_n 2, 1) := by decide +kernel
theorem dX3_rankOf_2 : decode cX3_rankOf 2 = .ok (.iconst 0, 1) := by decide +kernel
theorem dX3_rankOf_3 : decode cX3_rankOf 3 = .ok (.istore_n 3, 1) := by decide +kernel
theorem dX3_rankOf_4 : decode cX3_rankOf 4 = .ok (.iload_n 3, 1) := by decide +kernel
theorem dX3_rankOf_5 : decode cX3_rankOf 5 = .ok (.bipush 6, 2) := by decide +kernel
theorem dX3_rankOf_7 : decode cX3_rankOf 7 = .ok (.if_icmp .ge 29, 3) := by decide +kernel
theorem dX3_rankOf_10 : decode cX3_rankOf 10 = .ok (.aload_n 0, 1) := by decide +kernel
theorem dX3_rankOf_11 : decode cX3_rankOf 11 = .ok (.iload_n 3, 1) := by decide +kernel
theorem dX3_rankOf_12 : decode cX3_rankOf 12 = .ok (.invokevirtual 18, 3) := by decide +kernel
theorem dX3_rankOf_15 : decode cX3_rankOf 15 = .ok (.ifCond .le 15, 3) := by decide +kernel
theorem dX3_rankOf_18 : decode cX3_rankOf 18 = .ok (.aload_n 0, 1) := by decide +kernel
theorem dX3_rankOf_19 : decode cX3_rankOf 19 = .ok (.iload_n 3, 1) := by decide +kernel
theorem dX3_rankOf_20 : decode cX3_rankOf 20 = .ok (.iload_n 1, 1) := by decide +kernel
theorem dX3_rankOf_21 : decode cX3_rankOf 21 = .ok (.invokevirtual 52, 3) := by decide +kernel
theorem dX3_rankOf_24 : decode cX3_rankOf 24 = .ok (.ifCond .eq 6, 3) := by decide +kernel
theorem dX3_rankOf_27 : decode cX3_rankOf 27 = .ok (.iinc 2 1, 3) := by decide +kernel
theorem dX3_rankOf_30 : decode cX3_rankOf 30 = .ok (.iinc 3 1, 3) := by decide +kernel
theorem dX3_rankOf_33 : decode cX3_rankOf 33 = .ok (.goto (-29), 3) := by decide +kernel
theorem dX3_rankOf_36 : decode cX3_rankOf 36 = .ok (.iload_n 2, 1) := by decide +kernel
theorem dX3_rankOf_37 : decode cX3_rankOf 37 = .ok (.ireturn, 1) := by decide +kernel
theorem dX3_standsBefore_0 : decode cX3_standsBefore 0 = .ok (.aload_n 0, 1) := by decide +kernel
theorem dX3_standsBefore_1 : decode cX3_standsBefore 1 = .ok (.iload_n 1, 1) := by decide +kernel
theorem dX3_standsBefore_2 : decode cX3_standsBefore 2 = .ok (.invokevirtual 22, 3) := by decide +kernel
theorem dX3_standsBefore_5 : decode cX3_standsBefore 5 = .ok (.aload_n 0, 1) := by decide +kernel
theorem dX3_standsBefore_6 : decode cX3_standsBefore 6 = .ok (.iload_n 2, 1) := by decide +kernel
theorem dX3_standsBefore_7 : decode cX3_standsBefore 7 = .ok (.invokevirtual 22, 3) := by decide +kernel
theorem dX3_standsBefore_10 : decode cX3_standsBefore 10 = .ok (.if_icmp .gt 21, 3) := by decide +kernel
theorem dX3_standsBefore_13 : decode cX3_standsBefore 13 = .ok (.aload_n 0, 1) := by decide +kernel
theorem dX3_standsBefore_14 : decode cX3_standsBefore 14 = .ok (.iload_n 1, 1) := by decide +kernel
theorem dX3_standsBefore_15 : decode cX3_standsBefore 15 = .ok (.invokevirtual 22, 3) := by decide +kernel
theorem dX3_standsBefore_18 : decode cX3_standsBefore 18 = .ok (.aload_n 0, 1) := by decide +kernel
theorem dX3_standsBefore_19 : decode cX3_standsBefore 19 = .ok (.iload_n 2, 1) := by decide +kernel
theorem dX3_standsBefore_20 : decode cX3_standsBefore 20 = .ok (.invokevirtual 22, 3) := by decide +kernel
theorem dX3_standsBefore_23 : decode cX3_standsBefore 23 = .ok (.if_icmp .ne 12, 3) := by decide +kernel
theorem dX3_standsBefore_26 : decode cX3_standsBefore 26 = .ok (.iload_n 1, 1) := by decide +kernel
theorem dX3_standsBefore_27 : decode cX3_standsBefore 27 = .ok (.iload_n 2, 1) := by decide +kernel
theorem dX3_standsBefore_28 : decode cX3_standsBefore 28 = .ok (.if_icmp .ge 7, 3) := by decide +kernel
theorem dX3_standsBefore_31 : decode cX3_standsBefore 31 = .ok (.iconst 1, 1) := by decide +kernel
theorem dX3_standsBefore_32 : decode cX3_standsBefore 32 = .ok (.goto 4, 3) := by decide +kernel
theorem dX3_standsBefore_35 : decode cX3_standsBefore 35 = .ok (.iconst 0, 1) := by decide +kernel
theorem dX3_standsBefore_36 : decode cX3_standsBefore 36 = .ok (.ireturn, 1) := by decide +kernel
theorem dX4_init_0 : decode cX4_init 0 = .ok (.aload_n 0, 1) := by decide +kernel
theorem dX4_init_1 : decode cX4_init 1 = .ok (.invokespecial 3, 3) := by decide +kernel
theorem dX4_init_4 : decode cX4_init 4 = .ok (.aload_n 0, 1) := by decide +kernel
theorem dX4_init_5 : decode cX4_init 5 = .ok (.iconst 4, 1) := by decide +kernel
theorem dX4_init_6 : decode cX4_init 6 = .ok (.anewarray 9, 3) := by decide +kernel
theorem dX4_init_9 : decode cX4_init 9 = .ok (.putfield 11, 3) := by decide +kernel
theorem dX4_init_12 : decode cX4_init 12 = .ok (.aload_n 0, 1) := by decide +kernel
theorem dX4_init_13 : decode cX4_init 13 = .ok (.iconst 0, 1) := by decide +kernel
theorem dX4_init_14 : decode cX4_init 14 = .ok (.putfield 17, 3) := by decide +kernel
theorem dX4_init_17 : decode cX4_init 17 = .ok (.aload_n 0, 1) := by decide +kernel
theorem dX4_init_18 : decode cX4_init 18 = .ok (.iconst 0, 1) := by decide +kernel
theorem dX4_init_19 : decode cX4_init 19 = .ok (.putfield 21, 3) := by decide +kernel
theorem dX4_init_22 : decode cX4_init 22 = .ok (.iconst 0, 1) := by decide +kernel
theorem dX4_init_23 : decode cX4_init 23 = .ok (.istore_n 1, 1) := by decide +kernel
theorem dX4_init_24 : decode cX4_init 24 = .ok (.iload_n 1, 1) := by decide +kernel
theorem dX4_init_25 : decode cX4_init 25 = .ok (.aload_n 0, 1) := by decide +kernel
theorem dX4_init_26 : decode cX4_init 26 = .ok (.getfield 11, 3) := by decide +kernel
theorem dX4_init_29 : decode cX4_init 29 = .ok (.arraylength, 1) := by decide +kernel
theorem dX4_init_30 : decode cX4_init 30 = .ok (.if_icmp .ge 22, 3) := by decide +kernel
theorem dX4_init_33 : decode cX4_init 33 = .ok (.aload_n 0, 1) := by decide +kernel
theorem dX4_init_34 : decode cX4_init 34 = .ok (.getfield 11, 3) := by decide +kernel
theorem dX4_init_37 : decode cX4_init 37 = .ok (.iload_n 1, 1) := by decide +kernel
theorem dX4_init_38 : decode cX4_init 38 = .ok (.new 9, 3) := by decide +kernel
theorem dX4_init_41 : decode cX4_init 41 = .ok (.dup, 1) := by decide +kernel
theorem dX4_init_42 : decode cX4_init 42 = .ok (.invokespecial 24, 3) := by decide +kernel
theorem dX4_init_45 : decode cX4_init 45 = .ok (.aastore, 1) := by decide +kernel
theorem dX4_init_46 : decode cX4_init 46 = .ok (.iinc 1 1, 3) := by decide +kernel
theorem dX4_init_49 : decode cX4_init 49 = .ok (.goto (-25), 3) := by decide +kernel
theorem dX4_init_52 : decode cX4_init 52 = .ok (.return_, 1) := by decide +kernel
theorem dX4_isEmpty_0 : decode cX4_isEmpty 0 = .ok (.aload_n 0, 1) := by decide +kernel
theorem dX4_isEmpty_1 : decode cX4_isEmpty 1 = .ok (.getfield 21, 3) := by decide +kernel
theorem dX4_isEmpty_4 : decode cX4_isEmpty 4 = .ok (.ifCond .gt 7, 3) := by decide +kernel
theorem dX4_isEmpty_7 : decode cX4_isEmpty 7 = .ok (.iconst 1, 1) := by decide +kernel
theorem dX4_isEmpty_8 : decode cX4_isEmpty 8 = .ok (.goto 4, 3) := by decide +kernel
theorem dX4_isEmpty_11 : decode cX4_isEmpty 11 = .ok (.iconst 0, 1) := by decide +kernel
theorem dX4_isEmpty_12 : decode cX4_isEmpty 12 = .ok (.ireturn, 1) := by decide +kernel
theorem dX4_push_0 : decode cX4_push 0 = .ok (.aload_n 0, 1) := by decide +kernel
theorem dX4_push_1 : decode cX4_push 1 = .ok (.aload_n 0, 1) := by decide +kernel
theorem dX4_push_2 : decode cX4_push 2 = .ok (.getfield 17, 3) := by decide +kernel
theorem dX4_push_5 : decode cX4_push 5 = .ok (.invokevirtual 25, 3) := by decide +kernel
theorem dX4_push_8 : decode cX4_push 8 = .ok (.astore_n 2, 1) := by decide +kernel
theorem dX4_push_9 : decode cX4_push 9 = .ok (.aload_n 2, 1) := by decide +kernel
theorem dX4_push_10 : decode cX4_push 10 = .ok (.ifnull 34, 3) := by decide +kernel
theorem dX4_push_13 : decode cX4_push 13 = .ok (.aload_n 2, 1) := by decide +kernel
theorem dX4_push_14 : decode cX4_push 14 = .ok (.aload_n 1, 1) := by decide +kernel
theorem dX4_push_15 : decode cX4_push 15 = .ok (.invokevirtual 29, 3) := by decide +kernel
theorem dX4_push_18 : decode cX4_push 18 = .ok (.aload_n 0, 1) := by decide +kernel
theorem dX4_push_19 : decode cX4_push 19 = .ok (.aload_n 0, 1) := by decide +kernel
theorem dX4_push_20 : decode cX4_push 20 = .ok (.getfield 17, 3) := by decide +kernel
theorem dX4_push_23 : decode cX4_push 23 = .ok (.iconst 1, 1) := by decide +kernel
theorem dX4_push_24 : decode cX4_push 24 = .ok (.iadd, 1) := by decide +kernel
theorem dX4_push_25 : decode cX4_push 25 = .ok (.iconst 4, 1) := by decide +kernel
theorem dX4_push_26 : decode cX4_push 26 = .ok (.irem, 1) := by decide +kernel
theorem dX4_push_27 : decode cX4_push 27 = .ok (.putfield 17, 3) := by decide +kernel
theorem dX4_push_30 : decode cX4_push 30 = .ok (.aload_n 0, 1) := by decide +kernel
theorem dX4_push_31 : decode cX4_push 31 = .ok (.aload_n 0, 1) := by decide +kernel
theorem dX4_push_32 : decode cX4_push 32 = .ok (.getfield 21, 3) := by decide +kernel
theorem dX4_push_35 : decode cX4_push 35 = .ok (.iconst 1, 1) := by decide +kernel
theorem dX4_push_36 : decode cX4_push 36 = .ok (.iadd, 1) := by decide +kernel
theorem dX4_push_37 : decode cX4_push 37 = .ok (.iconst 4, 1) := by decide +kernel
theorem dX4_push_38 : decode cX4_push 38 = .ok (.invokestatic 33, 3) := by decide +kernel
theorem dX4_push_41 : decode cX4_push 41 = .ok (.putfield 21, 3) := by decide +kernel
theorem dX4_push_44 : decode cX4_push 44 = .ok (.return_, 1) := by decide +kernel
theorem dX4_popInto_0 : decode cX4_popInto 0 = .ok (.aload_n 0, 1) := by decide +kernel
theorem dX4_popInto_1 : decode cX4_popInto 1 = .ok (.getfield 17, 3) := by decide +kernel
theorem dX4_popInto_4 : decode cX4_popInto 4 = .ok (.iconst 4, 1) := by decide +kernel
theorem dX4_popInto_5 : decode cX4_popInto 5 = .ok (.iadd, 1) := by decide +kernel
theorem dX4_popInto_6 : decode cX4_popInto 6 = .ok (.iconst 1, 1) := by decide +kernel
theorem dX4_popInto_7 : decode cX4_popInto 7 = .ok (.isub, 1) := by decide +kernel
theorem dX4_popInto_8 : decode cX4_popInto 8 = .ok (.iconst 4, 1) := by decide +kernel
theorem dX4_popInto_9 : decode cX4_popInto 9 = .ok (.irem, 1) := by decide +kernel
theorem dX4_popInto_10 : decode cX4_popInto 10 = .ok (.istore_n 2, 1) := by decide +kernel
theorem dX4_popInto_11 : decode cX4_popInto 11 = .ok (.aload_n 0, 1) := by decide +kernel
theorem dX4_popInto_12 : decode cX4_popInto 12 = .ok (.iload_n 2, 1) := by decide +kernel
theorem dX4_popInto_13 : decode cX4_popInto 13 = .ok (.invokevirtual 25, 3) := by decide +kernel
theorem dX4_popInto_16 : decode cX4_popInto 16 = .ok (.astore_n 3, 1) := by decide +kernel
theorem dX4_popInto_17 : decode cX4_popInto 17 = .ok (.aload_n 3, 1) := by decide +kernel
theorem dX4_popInto_18 : decode cX4_popInto 18 = .ok (.ifnull 30, 3) := by decide +kernel
theorem dX4_popInto_21 : decode cX4_popInto 21 = .ok (.aload_n 0, 1) := by decide +kernel
theorem dX4_popInto_22 : decode cX4_popInto 22 = .ok (.getfield 21, 3) := by decide +kernel
theorem dX4_popInto_25 : decode cX4_popInto 25 = .ok (.ifCond .le 23, 3) := by decide +kernel
theorem dX4_popInto_28 : decode cX4_popInto 28 = .ok (.aload_n 1, 1) := by decide +kernel
theorem dX4_popInto_29 : decode cX4_popInto 29 = .ok (.aload_n 3, 1) := by decide +kernel
theorem dX4_popInto_30 : decode cX4_popInto 30 = .ok (.invokevirtual 29, 3) := by decide +kernel
theorem dX4_popInto_33 : decode cX4_popInto 33 = .ok (.aload_n 0, 1) := by decide +kernel
theorem dX4_popInto_34 : decode cX4_popInto 34 = .ok (.iload_n 2, 1) := by decide +kernel
theorem dX4_popInto_35 : decode cX4_popInto 35 = .ok (.putfield 17, 3) := by decide +kernel
theorem dX4_popInto_38 : decode cX4_popInto 38 = .ok (.aload_n 0, 1) := by decide +kernel
theorem dX4_popInto_39 : decode cX4_popInto 39 = .ok (.dup, 1) := by decide +kernel
theorem dX4_popInto_40 : decode cX4_popInto 40 = .ok (.getfield 21, 3) := by decide +kernel
theorem dX4_popInto_43 : decode cX4_popInto 43 = .ok (.iconst 1, 1) := by decide +kernel
theorem dX4_popInto_44 : decode cX4_popInto 44 = .ok (.isub, 1) := by decide +kernel
theorem dX4_popInto_45 : decode cX4_popInto 45 = .ok (.putfield 21, 3) := by decide +kernel
theorem dX4_popInto_48 : decode cX4_popInto 48 = .ok (.return_, 1) := by decide +kernel
theorem dX4_clear_0 : decode cX4_clear 0 = .ok (.aload_n 0, 1) := by decide +kernel
theorem dX4_clear_1 : decode cX4_clear 1 = .ok (.iconst 0, 1) := by decide +kernel
theorem dX4_clear_2 : decode cX4_clear 2 = .ok (.putfield 21, 3) := by decide +kernel
theorem dX4_clear_5 : decode cX4_clear 5 = .ok (.return_, 1) := by decide +kernel
theorem dX4_placeAt_0 : decode cX4_placeAt 0 = .ok (.iload_n 1, 1) := by decide +kernel
theorem dX4_placeAt_1 : decode cX4_placeAt 1 = .ok (.ifCond .lt 21, 3) := by decide +kernel
theorem dX4_placeAt_4 : decode cX4_placeAt 4 = .ok (.iload_n 1, 1) := by decide +kernel
theorem dX4_placeAt_5 : decode cX4_placeAt 5 = .ok (.aload_n 0, 1) := by decide +kernel
theorem dX4_placeAt_6 : decode cX4_placeAt 6 = .ok (.getfield 11, 3) := by decide +kernel
theorem dX4_placeAt_9 : decode cX4_placeAt 9 = .ok (.arraylength, 1) := by decide +kernel
theorem dX4_placeAt_10 : decode cX4_placeAt 10 = .ok (.if_icmp .ge 12, 3) := by decide +kernel
theorem dX4_placeAt_13 : decode cX4_placeAt 13 = .ok (.aload_n 0, 1) := by decide +kernel
theorem dX4_placeAt_14 : decode cX4_placeAt 14 = .ok (.getfield 11, 3) := by decide +kernel
theorem dX4_placeAt_17 : decode cX4_placeAt 17 = .ok (.iload_n 1, 1) := by decide +kernel
theorem dX4_placeAt_18 : decode cX4_placeAt 18 = .ok (.aaload, 1) := by decide +kernel
theorem dX4_placeAt_19 : decode cX4_placeAt 19 = .ok (.goto 4, 3) := by decide +kernel
theorem dX4_placeAt_22 : decode cX4_placeAt 22 = .ok (.aconst_null, 1) := by decide +kernel
theorem dX4_placeAt_23 : decode cX4_placeAt 23 = .ok (.areturn, 1) := by decide +kernel
theorem dX5_init_0 : decode cX5_init 0 = .ok (.aload_n 0, 1) := by decide +kernel
theorem dX5_init_1 : decode cX5_init 1 = .ok (.invokespecial 3, 3) := by decide +kernel
theorem dX5_init_4 : decode cX5_init 4 = .ok (.aload_n 0, 1) := by decide +kernel
theorem dX5_init_5 : decode cX5_init 5 = .ok (.new 9, 3) := by decide +kernel
theorem dX5_init_8 : decode cX5_init 8 = .ok (.dup, 1) := by decide +kernel
theorem dX5_init_9 : decode cX5_init 9 = .ok (.bipush 60, 2) := by decide +kernel
theorem dX5_init_11 : decode cX5_init 11 = .ok (.invokespecial 11, 3) := by decide +kernel
theorem dX5_init_14 : decode cX5_init 14 = .ok (.putfield 14, 3) := by decide +kernel
theorem dX5_init_17 : decode cX5_init 17 = .ok (.aload_n 0, 1) := by decide +kernel
theorem dX5_init_18 : decode cX5_init 18 = .ok (.new 9, 3) := by decide +kernel
theorem dX5_init_21 : decode cX5_init 21 = .ok (.dup, 1) := by decide +kernel
theorem dX5_init_22 : decode cX5_init 22 = .ok (.bipush 60, 2) := by decide +kernel
theorem dX5_init_24 : decode cX5_init 24 = .ok (.invokespecial 11, 3) := by decide +kernel
theorem dX5_init_27 : decode cX5_init 27 = .ok (.putfield 20, 3) := by decide +kernel
theorem dX5_init_30 : decode cX5_init 30 = .ok (.return_, 1) := by decide +kernel
theorem dX5_copyFrom_0 : decode cX5_copyFrom 0 = .ok (.aload_n 0, 1) := by decide +kernel
theorem dX5_copyFrom_1 : decode cX5_copyFrom 1 = .ok (.getfield 14, 3) := by decide +kernel
theorem dX5_copyFrom_4 : decode cX5_copyFrom 4 = .ok (.aload_n 1, 1) := by decide +kernel
theorem dX5_copyFrom_5 : decode cX5_copyFrom 5 = .ok (.getfield 14, 3) := by decide +kernel
theorem dX5_copyFrom_8 : decode cX5_copyFrom 8 = .ok (.invokevirtual 23, 3) := by decide +kernel
theorem dX5_copyFrom_11 : decode cX5_copyFrom 11 = .ok (.aload_n 0, 1) := by decide +kernel
theorem dX5_copyFrom_12 : decode cX5_copyFrom 12 = .ok (.getfield 20, 3) := by decide +kernel
theorem dX5_copyFrom_15 : decode cX5_copyFrom 15 = .ok (.aload_n 1, 1) := by decide +kernel
theorem dX5_copyFrom_16 : decode cX5_copyFrom 16 = .ok (.getfield 20, 3) := by decide +kernel
theorem dX5_copyFrom_19 : decode cX5_copyFrom 19 = .ok (.invokevirtual 23, 3) := by decide +kernel
theorem dX5_copyFrom_22 : decode cX5_copyFrom 22 = .ok (.return_, 1) := by decide +kernel
theorem dX6_init_0 : decode cX6_init 0 = .ok (.aload_n 0, 1) := by decide +kernel
theorem dX6_init_1 : decode cX6_init 1 = .ok (.invokespecial 3, 3) := by decide +kernel
theorem dX6_init_4 : decode cX6_init 4 = .ok (.aload_n 0, 1) := by decide +kernel
theorem dX6_init_5 : decode cX6_init 5 = .ok (.new 9, 3) := by decide +kernel
theorem dX6_init_8 : decode cX6_init 8 = .ok (.dup, 1) := by decide +kernel
theorem dX6_init_9 : decode cX6_init 9 = .ok (.sipush 1140, 3) := by decide +kernel
theorem dX6_init_12 : decode cX6_init 12 = .ok (.invokespecial 11, 3) := by decide +kernel
theorem dX6_init_15 : decode cX6_init 15 = .ok (.putfield 14, 3) := by decide +kernel
theorem dX6_init_18 : decode cX6_init 18 = .ok (.aload_n 0, 1) := by decide +kernel
theorem dX6_init_19 : decode cX6_init 19 = .ok (.new 9, 3) := by decide +kernel
theorem dX6_init_22 : decode cX6_init 22 = .ok (.dup, 1) := by decide +kernel
theorem dX6_init_23 : decode cX6_init 23 = .ok (.sipush 1140, 3) := by decide +kernel
theorem dX6_init_26 : decode cX6_init 26 = .ok (.invokespecial 11, 3) := by decide +kernel
theorem dX6_init_29 : decode cX6_init 29 = .ok (.putfield 20, 3) := by decide +kernel
theorem dX6_init_32 : decode cX6_init 32 = .ok (.aload_n 0, 1) := by decide +kernel
theorem dX6_init_33 : decode cX6_init 33 = .ok (.new 23, 3) := by decide +kernel
theorem dX6_init_36 : decode cX6_init 36 = .ok (.dup, 1) := by decide +kernel
theorem dX6_init_37 : decode cX6_init 37 = .ok (.invokespecial 25, 3) := by decide +kernel
theorem dX6_init_40 : decode cX6_init 40 = .ok (.putfield 26, 3) := by decide +kernel
theorem dX6_init_43 : decode cX6_init 43 = .ok (.aload_n 0, 1) := by decide +kernel
theorem dX6_init_44 : decode cX6_init 44 = .ok (.new 23, 3) := by decide +kernel
theorem dX6_init_47 : decode cX6_init 47 = .ok (.dup, 1) := by decide +kernel
theorem dX6_init_48 : decode cX6_init 48 = .ok (.invokespecial 25, 3) := by decide +kernel
theorem dX6_init_51 : decode cX6_init 51 = .ok (.putfield 30, 3) := by decide +kernel
theorem dX6_init_54 : decode cX6_init 54 = .ok (.aload_n 0, 1) := by decide +kernel
theorem dX6_init_55 : decode cX6_init 55 = .ok (.new 9, 3) := by decide +kernel
theorem dX6_init_58 : decode cX6_init 58 = .ok (.dup, 1) := by decide +kernel
theorem dX6_init_59 : decode cX6_init 59 = .ok (.sipush 2280, 3) := by decide +kernel
theorem dX6_init_62 : decode cX6_init 62 = .ok (.invokespecial 11, 3) := by decide +kernel
theorem dX6_init_65 : decode cX6_init 65 = .ok (.putfield 33, 3) := by decide +kernel
theorem dX6_init_68 : decode cX6_init 68 = .ok (.aload_n 0, 1) := by decide +kernel
theorem dX6_init_69 : decode cX6_init 69 = .ok (.new 9, 3) := by decide +kernel
theorem dX6_init_72 : decode cX6_init 72 = .ok (.dup, 1) := by decide +kernel
theorem dX6_init_73 : decode cX6_init 73 = .ok (.bipush 60, 2) := by decide +kernel
theorem dX6_init_75 : decode cX6_init 75 = .ok (.invokespecial 11, 3) := by decide +kernel
theorem dX6_init_78 : decode cX6_init 78 = .ok (.putfield 36, 3) := by decide +kernel
theorem dX6_init_81 : decode cX6_init 81 = .ok (.aload_n 0, 1) := by decide +kernel
theorem dX6_init_82 : decode cX6_init 82 = .ok (.sipush 1783, 3) := by decide +kernel
theorem dX6_init_85 : decode cX6_init 85 = .ok (.newarray .int, 2) := by decide +kernel
theorem dX6_init_87 : decode cX6_init 87 = .ok (.putfield 39, 3) := by decide +kernel
theorem dX6_init_90 : decode cX6_init 90 = .ok (.return_, 1) := by decide +kernel
theorem dX6_join_0 : decode cX6_join 0 = .ok (.aload_n 0, 1) := by decide +kernel
theorem dX6_join_1 : decode cX6_join 1 = .ok (.getfield 14, 3) := by decide +kernel
theorem dX6_join_4 : decode cX6_join 4 = .ok (.areturn, 1) := by decide +kernel
theorem dX6_totals_0 : decode cX6_totals 0 = .ok (.aload_n 0, 1) := by decide +kernel
theorem dX6_totals_1 : decode cX6_totals 1 = .ok (.getfield 26, 3) := by decide +kernel
theorem dX6_totals_4 : decode cX6_totals 4 = .ok (.areturn, 1) := by decide +kernel
theorem dX6_oldTotals_0 : decode cX6_oldTotals 0 = .ok (.aload_n 0, 1) := by decide +kernel
theorem dX6_oldTotals_1 : decode cX6_oldTotals 1 = .ok (.getfield 30, 3) := by decide +kernel
theorem dX6_oldTotals_4 : decode cX6_oldTotals 4 = .ok (.areturn, 1) := by decide +kernel
theorem dX6_change_0 : decode cX6_change 0 = .ok (.aload_n 0, 1) := by decide +kernel
theorem dX6_change_1 : decode cX6_change 1 = .ok (.getfield 33, 3) := by decide +kernel
theorem dX6_change_4 : decode cX6_change 4 = .ok (.areturn, 1) := by decide +kernel
theorem dX6_dangling_0 : decode cX6_dangling 0 = .ok (.aload_n 0, 1) := by decide +kernel
theorem dX6_dangling_1 : decode cX6_dangling 1 = .ok (.getfield 36, 3) := by decide +kernel
theorem dX6_dangling_4 : decode cX6_dangling 4 = .ok (.areturn, 1) := by decide +kernel
theorem dX6_follow_0 : decode cX6_follow 0 = .ok (.aload_n 0, 1) := by decide +kernel
theorem dX6_follow_1 : decode cX6_follow 1 = .ok (.invokevirtual 43, 3) := by decide +kernel
theorem dX6_follow_4 : decode cX6_follow 4 = .ok (.aload_n 0, 1) := by decide +kernel
theorem dX6_follow_5 : decode cX6_follow 5 = .ok (.aload_n 1, 1) := by decide +kernel
theorem dX6_follow_6 : decode cX6_follow 6 = .ok (.aload_n 2, 1) := by decide +kernel
theorem dX6_follow_7 : decode cX6_follow 7 = .ok (.invokevirtual 46, 3) := by decide +kernel
theorem dX6_follow_10 : decode cX6_follow 10 = .ok (.aload_n 0, 1) := by decide +kernel
theorem dX6_follow_11 : decode cX6_follow 11 = .ok (.getfield 33, 3) := by decide +kernel
theorem dX6_follow_14 : decode cX6_follow 14 = .ok (.aload_n 0, 1) := by decide +kernel
theorem dX6_follow_15 : decode cX6_follow 15 = .ok (.getfield 14, 3) := by decide +kernel
theorem dX6_follow_18 : decode cX6_follow 18 = .ok (.aload_n 0, 1) := by decide +kernel
theorem dX6_follow_19 : decode cX6_follow 19 = .ok (.getfield 20, 3) := by decide +kernel
theorem dX6_follow_22 : decode cX6_follow 22 = .ok (.invokevirtual 50, 3) := by decide +kernel
theorem dX6_follow_25 : decode cX6_follow 25 = .ok (.aload_n 0, 1) := by decide +kernel
theorem dX6_follow_26 : decode cX6_follow 26 = .ok (.getfield 33, 3) := by decide +kernel
theorem dX6_follow_29 : decode cX6_follow 29 = .ok (.invokevirtual 54, 3) := by decide +kernel
theorem dX6_follow_32 : decode cX6_follow 32 = .ok (.ireturn, 1) := by decide +kernel
theorem dX6_startAnew_0 : decode cX6_startAnew 0 = .ok (.aload_n 0, 1) := by decide +kernel
theorem dX6_startAnew_1 : decode cX6_startAnew 1 = .ok (.aload_n 1, 1) := by decide +kernel
theorem dX6_startAnew_2 : decode cX6_startAnew 2 = .ok (.aload_n 2, 1) := by decide +kernel
theorem dX6_startAnew_3 : decode cX6_startAnew 3 = .ok (.invokevirtual 46, 3) := by decide +kernel
theorem dX6_startAnew_6 : decode cX6_startAnew 6 = .ok (.aload_n 0, 1) := by decide +kernel
theorem dX6_startAnew_7 : decode cX6_startAnew 7 = .ok (.getfield 33, 3) := by decide +kernel
theorem dX6_startAnew_10 : decode cX6_startAnew 10 = .ok (.invokevirtual 58, 3) := by decide +kernel
theorem dX6_startAnew_13 : decode cX6_startAnew 13 = .ok (.aload_n 0, 1) := by decide +kernel
theorem dX6_startAnew_14 : decode cX6_startAnew 14 = .ok (.getfield 30, 3) := by decide +kernel
theorem dX6_startAnew_17 : decode cX6_startAnew 17 = .ok (.aload_n 0, 1) := by decide +kernel
theorem dX6_startAnew_18 : decode cX6_startAnew 18 = .ok (.getfield 26, 3) := by decide +kernel
theorem dX6_startAnew_21 : decode cX6_startAnew 21 = .ok (.invokevirtual 61, 3) := by decide +kernel
theorem dX6_startAnew_24 : decode cX6_startAnew 24 = .ok (.return_, 1) := by decide +kernel
theorem dX6_productOfOccurrence_0 : decode cX6_productOfOccurrence 0 = .ok (.aload_n 0, 1) := by decide +kernel
theorem dX6_productOfOccurrence_1 : decode cX6_productOfOccurrence 1 = .ok (.iload_n 1, 1) := by decide +kernel
theorem dX6_productOfOccurrence_2 : decode cX6_productOfOccurrence 2 = .ok (.invokevirtual 65, 3) := by decide +kernel
theorem dX6_productOfOccurrence_5 : decode cX6_productOfOccurrence 5 = .ok (.iconst 0, 1) := by decide +kernel
theorem dX6_productOfOccurrence_6 : decode cX6_productOfOccurrence 6 = .ok (.istore_n 3, 1) := by decide +kernel
theorem dX6_productOfOccurrence_7 : decode cX6_productOfOccurrence 7 = .ok (.iconst 0, 1) := by decide +kernel
theorem dX6_productOfOccurrence_8 : decode cX6_productOfOccurrence 8 = .ok (.istore 4, 2) := by decide +kernel
theorem dX6_productOfOccurrence_10 : decode cX6_productOfOccurrence 10 = .ok (.iload 4, 2) := by decide +kernel
theorem dX6_productOfOccurrence_12 : decode cX6_productOfOccurrence 12 = .ok (.aload_n 0, 1) := by decide +kernel
theorem dX6_productOfOccurrence_13 : decode cX6_productOfOccurrence 13 = .ok (.getfield 39, 3) := by decide +kernel
theorem dX6_productOfOccurrence_16 : decode cX6_productOfOccurrence 16 = .ok (.arraylength, 1) := by decide +kernel
theorem dX6_productOfOccurrence_17 : decode cX6_productOfOccurrence 17 = .ok (.if_icmp .ge 31, 3) := by decide +kernel
theorem dX6_productOfOccurrence_20 : decode cX6_productOfOccurrence 20 = .ok (.iload_n 3, 1) := by decide +kernel
theorem dX6_productOfOccurrence_21 : decode cX6_productOfOccurrence 21 = .ok (.aload_n 0, 1) := by decide +kernel
theorem dX6_productOfOccurrence_22 : decode cX6_productOfOccurrence 22 = .ok (.getfield 39, 3) := by decide +kernel
theorem dX6_productOfOccurrence_25 : decode cX6_productOfOccurrence 25 = .ok (.iload 4, 2) := by decide +kernel
theorem dX6_productOfOccurrence_27 : decode cX6_productOfOccurrence 27 = .ok (.iaload, 1) := by decide +kernel
theorem dX6_productOfOccurrence_28 : decode cX6_productOfOccurrence 28 = .ok (.iadd, 1) := by decide +kernel
theorem dX6_productOfOccurrence_29 : decode cX6_productOfOccurrence 29 = .ok (.istore_n 3, 1) := by decide +kernel
theorem dX6_productOfOccurrence_30 : decode cX6_productOfOccurrence 30 = .ok (.iload_n 2, 1) := by decide +kernel
theorem dX6_productOfOccurrence_31 : decode cX6_productOfOccurrence 31 = .ok (.iload_n 3, 1) := by decide +kernel
theorem dX6_productOfOccurrence_32 : decode cX6_productOfOccurrence 32 = .ok (.if_icmp .ge 10, 3) := by decide +kernel
theorem dX6_productOfOccurrence_35 : decode cX6_productOfOccurrence 35 = .ok (.iload 4, 2) := by decide +kernel
theorem dX6_productOfOccurrence_37 : decode cX6_productOfOccurrence 37 = .ok (.sipush 891, 3) := by decide +kernel
theorem dX6_productOfOccurrence_40 : decode cX6_productOfOccurrence 40 = .ok (.isub, 1) := by decide +kernel
theorem dX6_productOfOccurrence_41 : decode cX6_productOfOccurrence 41 = .ok (.ireturn, 1) := by decide +kernel
theorem dX6_productOfOccurrence_42 : decode cX6_productOfOccurrence 42 = .ok (.iinc 4 1, 3) := by decide +kernel
theorem dX6_productOfOccurrence_45 : decode cX6_productOfOccurrence 45 = .ok (.goto (-35), 3) := by decide +kernel
theorem dX6_productOfOccurrence_48 : decode cX6_productOfOccurrence 48 = .ok (.iconst 0, 1) := by decide +kernel
theorem dX6_productOfOccurrence_49 : decode cX6_productOfOccurrence 49 = .ok (.ireturn, 1) := by decide +kernel
theorem dX6_differentProducts_0 : decode cX6_differentProducts 0 = .ok (.aload_n 0, 1) := by decide +kernel
theorem dX6_differentProducts_1 : decode cX6_differentProducts 1 = .ok (.iload_n 1, 1) := by decide +kernel
theorem dX6_differentProducts_2 : decode cX6_differentProducts 2 = .ok (.invokevirtual 65, 3) := by decide +kernel
theorem dX6_differentProducts_5 : decode cX6_differentProducts 5 = .ok (.iconst 0, 1) := by decide +kernel
theorem dX6_differentProducts_6 : decode cX6_differentProducts 6 = .ok (.istore_n 2, 1) := by decide +kernel
theorem dX6_differentProducts_7 : decode cX6_differentProducts 7 = .ok (.iconst 0, 1) := by decide +kernel
theorem dX6_differentProducts_8 : decode cX6_differentProducts 8 = .ok (.istore_n 3, 1) := by decide +kernel
theorem dX6_differentProducts_9 : decode cX6_differentProducts 9 = .ok (.iload_n 3, 1) := by decide +kernel
theorem dX6_differentProducts_10 : decode cX6_differentProducts 10 = .ok (.aload_n 0, 1) := by decide +kernel
theorem dX6_differentProducts_11 : decode cX6_differentProducts 11 = .ok (.getfield 39, 3) := by decide +kernel
theorem dX6_differentProducts_14 : decode cX6_differentProducts 14 = .ok (.arraylength, 1) := by decide +kernel
theorem dX6_differentProducts_15 : decode cX6_differentProducts 15 = .ok (.if_icmp .ge 21, 3) := by decide +kernel
theorem dX6_differentProducts_18 : decode cX6_differentProducts 18 = .ok (.aload_n 0, 1) := by decide +kernel
theorem dX6_differentProducts_19 : decode cX6_differentProducts 19 = .ok (.getfield 39, 3) := by decide +kernel
theorem dX6_differentProducts_22 : decode cX6_differentProducts 22 = .ok (.iload_n 3, 1) := by decide +kernel
theorem dX6_differentProducts_23 : decode cX6_differentProducts 23 = .ok (.iaload, 1) := by decide +kernel
theorem dX6_differentProducts_24 : decode cX6_differentProducts 24 = .ok (.ifCond .eq 6, 3) := by decide +kernel
theorem dX6_differentProducts_27 : decode cX6_differentProducts 27 = .ok (.iinc 2 1, 3) := by decide +kernel
theorem dX6_differentProducts_30 : decode cX6_differentProducts 30 = .ok (.iinc 3 1, 3) := by decide +kernel
theorem dX6_differentProducts_33 : decode cX6_differentProducts 33 = .ok (.goto (-24), 3) := by decide +kernel
theorem dX6_differentProducts_36 : decode cX6_differentProducts 36 = .ok (.iload_n 2, 1) := by decide +kernel
theorem dX6_differentProducts_37 : decode cX6_differentProducts 37 = .ok (.ireturn, 1) := by decide +kernel
theorem dX6_tallyProducts_0 : decode cX6_tallyProducts 0 = .ok (.aload_n 0, 1) := by decide +kernel
theorem dX6_tallyProducts_1 : decode cX6_tallyProducts 1 = .ok (.getfield 39, 3) := by decide +kernel
theorem dX6_tallyProducts_4 : decode cX6_tallyProducts 4 = .ok (.iconst 0, 1) := by decide +kernel
theorem dX6_tallyProducts_5 : decode cX6_tallyProducts 5 = .ok (.invokestatic 68, 3) := by decide +kernel
theorem dX6_tallyProducts_8 : decode cX6_tallyProducts 8 = .ok (.iconst 0, 1) := by decide +kernel
theorem dX6_tallyProducts_9 : decode cX6_tallyProducts 9 = .ok (.istore_n 2, 1) := by decide +kernel
theorem dX6_tallyProducts_10 : decode cX6_tallyProducts 10 = .ok (.iload_n 2, 1) := by decide +kernel
theorem dX6_tallyProducts_11 : decode cX6_tallyProducts 11 = .ok (.aload_n 0, 1) := by decide +kernel
theorem dX6_tallyProducts_12 : decode cX6_tallyProducts 12 = .ok (.getfield 14, 3) := by decide +kernel
theorem dX6_tallyProducts_15 : decode cX6_tallyProducts 15 = .ok (.invokevirtual 54, 3) := by decide +kernel
theorem dX6_tallyProducts_18 : decode cX6_tallyProducts 18 = .ok (.if_icmp .ge 69, 3) := by decide +kernel
theorem dX6_tallyProducts_21 : decode cX6_tallyProducts 21 = .ok (.aload_n 0, 1) := by decide +kernel
theorem dX6_tallyProducts_22 : decode cX6_tallyProducts 22 = .ok (.getfield 14, 3) := by decide +kernel
theorem dX6_tallyProducts_25 : decode cX6_tallyProducts 25 = .ok (.iload_n 2, 1) := by decide +kernel
theorem dX6_tallyProducts_26 : decode cX6_tallyProducts 26 = .ok (.invokevirtual 74, 3) := by decide +kernel
theorem dX6_tallyProducts_29 : decode cX6_tallyProducts 29 = .ok (.istore_n 3, 1) := by decide +kernel
theorem dX6_tallyProducts_30 : decode cX6_tallyProducts 30 = .ok (.iload_n 3, 1) := by decide +kernel
theorem dX6_tallyProducts_31 : decode cX6_tallyProducts 31 = .ok (.invokestatic 78, 3) := by decide +kernel
theorem dX6_tallyProducts_34 : decode cX6_tallyProducts 34 = .ok (.sipush 891, 3) := by decide +kernel
theorem dX6_tallyProducts_37 : decode cX6_tallyProducts 37 = .ok (.iadd, 1) := by decide +kernel
theorem dX6_tallyProducts_38 : decode cX6_tallyProducts 38 = .ok (.istore 4, 2) := by decide +kernel
theorem dX6_tallyProducts_40 : decode cX6_tallyProducts 40 = .ok (.iload_n 3, 1) := by decide +kernel
theorem dX6_tallyProducts_41 : decode cX6_tallyProducts 41 = .ok (.invokestatic 81, 3) := by decide +kernel
theorem dX6_tallyProducts_44 : decode cX6_tallyProducts 44 = .ok (.iload_n 1, 1) := by decide +kernel
theorem dX6_tallyProducts_45 : decode cX6_tallyProducts 45 = .ok (.if_icmp .ne 36, 3) := by decide +kernel
theorem dX6_tallyProducts_48 : decode cX6_tallyProducts 48 = .ok (.iload 4, 2) := by decide +kernel
theorem dX6_tallyProducts_50 : decode cX6_tallyProducts 50 = .ok (.ifCond .lt 31, 3) := by decide +kernel
theorem dX6_tallyProducts_53 : decode cX6_tallyProducts 53 = .ok (.iload 4, 2) := by decide +kernel
theorem dX6_tallyProducts_55 : decode cX6_tallyProducts 55 = .ok (.aload_n 0, 1) := by decide +kernel
theorem dX6_tallyProducts_56 : decode cX6_tallyProducts 56 = .ok (.getfield 39, 3) := by decide +kernel
theorem dX6_tallyProducts_59 : decode cX6_tallyProducts 59 = .ok (.arraylength, 1) := by decide +kernel
theorem dX6_tallyProducts_60 : decode cX6_tallyProducts 60 = .ok (.if_icmp .ge 21, 3) := by decide +kernel
theorem dX6_tallyProducts_63 : decode cX6_tallyProducts 63 = .ok (.aload_n 0, 1) := by decide +kernel
theorem dX6_tallyProducts_64 : decode cX6_tallyProducts 64 = .ok (.getfield 39, 3) := by decide +kernel
theorem dX6_tallyProducts_67 : decode cX6_tallyProducts 67 = .ok (.iload 4, 2) := by decide +kernel
theorem dX6_tallyProducts_69 : decode cX6_tallyProducts 69 = .ok (.dup2, 1) := by decide +kernel
theorem dX6_tallyProducts_70 : decode cX6_tallyProducts 70 = .ok (.iaload, 1) := by decide +kernel
theorem dX6_tallyProducts_71 : decode cX6_tallyProducts 71 = .ok (.aload_n 0, 1) := by decide +kernel
theorem dX6_tallyProducts_72 : decode cX6_tallyProducts 72 = .ok (.getfield 14, 3) := by decide +kernel
theorem dX6_tallyProducts_75 : decode cX6_tallyProducts 75 = .ok (.iload_n 2, 1) := by decide +kernel
theorem dX6_tallyProducts_76 : decode cX6_tallyProducts 76 = .ok (.invokevirtual 84, 3) := by decide +kernel
theorem dX6_tallyProducts_79 : decode cX6_tallyProducts 79 = .ok (.iadd, 1) := by decide +kernel
theorem dX6_tallyProducts_80 : decode cX6_tallyProducts 80 = .ok (.iastore, 1) := by decide +kernel
theorem dX6_tallyProducts_81 : decode cX6_tallyProducts 81 = .ok (.iinc 2 1, 3) := by decide +kernel
theorem dX6_tallyProducts_84 : decode cX6_tallyProducts 84 = .ok (.goto (-74), 3) := by decide +kernel
theorem dX6_tallyProducts_87 : decode cX6_tallyProducts 87 = .ok (.return_, 1) := by decide +kernel
theorem dX6_swapOldAndNew_0 : decode cX6_swapOldAndNew 0 = .ok (.aload_n 0, 1) := by decide +kernel
theorem dX6_swapOldAndNew_1 : decode cX6_swapOldAndNew 1 = .ok (.getfield 20, 3) := by decide +kernel
theorem dX6_swapOldAndNew_4 : decode cX6_swapOldAndNew 4 = .ok (.astore_n 1, 1) := by decide +kernel
theorem dX6_swapOldAndNew_5 : decode cX6_swapOldAndNew 5 = .ok (.aload_n 0, 1) := by decide +kernel
theorem dX6_swapOldAndNew_6 : decode cX6_swapOldAndNew 6 = .ok (.aload_n 0, 1) := by decide +kernel
theorem dX6_swapOldAndNew_7 : decode cX6_swapOldAndNew 7 = .ok (.getfield 14, 3) := by decide +kernel
theorem dX6_swapOldAndNew_10 : decode cX6_swapOldAndNew 10 = .ok (.putfield 20, 3) := by decide +kernel
theorem dX6_swapOldAndNew_13 : decode cX6_swapOldAndNew 13 = .ok (.aload_n 0, 1) := by decide +kernel
theorem dX6_swapOldAndNew_14 : decode cX6_swapOldAndNew 14 = .ok (.aload_n 1, 1) := by decide +kernel
theorem dX6_swapOldAndNew_15 : decode cX6_swapOldAndNew 15 = .ok (.putfield 14, 3) := by decide +kernel
theorem dX6_swapOldAndNew_18 : decode cX6_swapOldAndNew 18 = .ok (.aload_n 0, 1) := by decide +kernel
theorem dX6_swapOldAndNew_19 : decode cX6_swapOldAndNew 19 = .ok (.getfield 30, 3) := by decide +kernel
theorem dX6_swapOldAndNew_22 : decode cX6_swapOldAndNew 22 = .ok (.astore_n 2, 1) := by decide +kernel
theorem dX6_swapOldAndNew_23 : decode cX6_swapOldAndNew 23 = .ok (.aload_n 0, 1) := by decide +kernel
theorem dX6_swapOldAndNew_24 : decode cX6_swapOldAndNew 24 = .ok (.aload_n 0, 1) := by decide +kernel
theorem dX6_swapOldAndNew_25 : decode cX6_swapOldAndNew 25 = .ok (.getfield 26, 3) := by decide +kernel
theorem dX6_swapOldAndNew_28 : decode cX6_swapOldAndNew 28 = .ok (.putfield 30, 3) := by decide +kernel
theorem dX6_swapOldAndNew_31 : decode cX6_swapOldAndNew 31 = .ok (.aload_n 0, 1) := by decide +kernel
theorem dX6_swapOldAndNew_32 : decode cX6_swapOldAndNew 32 = .ok (.aload_n 2, 1) := by decide +kernel
theorem dX6_swapOldAndNew_33 : decode cX6_swapOldAndNew 33 = .ok (.putfield 26, 3) := by decide +kernel
theorem dX6_swapOldAndNew_36 : decode cX6_swapOldAndNew 36 = .ok (.return_, 1) := by decide +kernel
theorem dX6_rebuild_0 : decode cX6_rebuild 0 = .ok (.aload_n 0, 1) := by decide +kernel
theorem dX6_rebuild_1 : decode cX6_rebuild 1 = .ok (.getfield 14, 3) := by decide +kernel
theorem dX6_rebuild_4 : decode cX6_rebuild 4 = .ok (.invokevirtual 58, 3) := by decide +kernel
theorem dX6_rebuild_7 : decode cX6_rebuild 7 = .ok (.aload_n 0, 1) := by decide +kernel
theorem dX6_rebuild_8 : decode cX6_rebuild 8 = .ok (.getfield 36, 3) := by decide +kernel
theorem dX6_rebuild_11 : decode cX6_rebuild 11 = .ok (.invokevirtual 58, 3) := by decide +kernel
theorem dX6_rebuild_14 : decode cX6_rebuild 14 = .ok (.iconst 0, 1) := by decide +kernel
theorem dX6_rebuild_15 : decode cX6_rebuild 15 = .ok (.istore_n 3, 1) := by decide +kernel
theorem dX6_rebuild_16 : decode cX6_rebuild 16 = .ok (.iload_n 3, 1) := by decide +kernel
theorem dX6_rebuild_17 : decode cX6_rebuild 17 = .ok (.aload_n 1, 1) := by decide +kernel
theorem dX6_rebuild_18 : decode cX6_rebuild 18 = .ok (.getfield 87, 3) := by decide +kernel
theorem dX6_rebuild_21 : decode cX6_rebuild 21 = .ok (.invokevirtual 54, 3) := by decide +kernel
theorem dX6_rebuild_24 : decode cX6_rebuild 24 = .ok (.if_icmp .ge 56, 3) := by decide +kernel
theorem dX6_rebuild_27 : decode cX6_rebuild 27 = .ok (.aload_n 1, 1) := by decide +kernel
theorem dX6_rebuild_28 : decode cX6_rebuild 28 = .ok (.getfield 87, 3) := by decide +kernel
theorem dX6_rebuild_31 : decode cX6_rebuild 31 = .ok (.iload_n 3, 1) := by decide +kernel
theorem dX6_rebuild_32 : decode cX6_rebuild 32 = .ok (.invokevirtual 74, 3) := by decide +kernel
theorem dX6_rebuild_35 : decode cX6_rebuild 35 = .ok (.istore 4, 2) := by decide +kernel
theorem dX6_rebuild_37 : decode cX6_rebuild 37 = .ok (.aload_n 1, 1) := by decide +kernel
theorem dX6_rebuild_38 : decode cX6_rebuild 38 = .ok (.getfield 87, 3) := by decide +kernel
theorem dX6_rebuild_41 : decode cX6_rebuild 41 = .ok (.iload_n 3, 1) := by decide +kernel
theorem dX6_rebuild_42 : decode cX6_rebuild 42 = .ok (.invokevirtual 84, 3) := by decide +kernel
theorem dX6_rebuild_45 : decode cX6_rebuild 45 = .ok (.istore 5, 2) := by decide +kernel
theorem dX6_rebuild_47 : decode cX6_rebuild 47 = .ok (.aload_n 0, 1) := by decide +kernel
theorem dX6_rebuild_48 : decode cX6_rebuild 48 = .ok (.iload 4, 2) := by decide +kernel
theorem dX6_rebuild_50 : decode cX6_rebuild 50 = .ok (.iload 5, 2) := by decide +kernel
theorem dX6_rebuild_52 : decode cX6_rebuild 52 = .ok (.aload_n 1, 1) := by decide +kernel
theorem dX6_rebuild_53 : decode cX6_rebuild 53 = .ok (.getfield 92, 3) := by decide +kernel
theorem dX6_rebuild_56 : decode cX6_rebuild 56 = .ok (.aload_n 2, 1) := by decide +kernel
theorem dX6_rebuild_57 : decode cX6_rebuild 57 = .ok (.invokevirtual 95, 3) := by decide +kernel
theorem dX6_rebuild_60 : decode cX6_rebuild 60 = .ok (.ifCond .ne 14, 3) := by decide +kernel
theorem dX6_rebuild_63 : decode cX6_rebuild 63 = .ok (.aload_n 0, 1) := by decide +kernel
theorem dX6_rebuild_64 : decode cX6_rebuild 64 = .ok (.getfield 36, 3) := by decide +kernel
theorem dX6_rebuild_67 : decode cX6_rebuild 67 = .ok (.iload 4, 2) := by decide +kernel
theorem dX6_rebuild_69 : decode cX6_rebuild 69 = .ok (.iload 5, 2) := by decide +kernel
theorem dX6_rebuild_71 : decode cX6_rebuild 71 = .ok (.invokevirtual 99, 3) := by decide +kernel
theorem dX6_rebuild_74 : decode cX6_rebuild 74 = .ok (.iinc 3 1, 3) := by decide +kernel
theorem dX6_rebuild_77 : decode cX6_rebuild 77 = .ok (.goto (-61), 3) := by decide +kernel
theorem dX6_rebuild_80 : decode cX6_rebuild 80 = .ok (.aload_n 0, 1) := by decide +kernel
theorem dX6_rebuild_81 : decode cX6_rebuild 81 = .ok (.getfield 26, 3) := by decide +kernel
theorem dX6_rebuild_84 : decode cX6_rebuild 84 = .ok (.aload_n 0, 1) := by decide +kernel
theorem dX6_rebuild_85 : decode cX6_rebuild 85 = .ok (.getfield 14, 3) := by decide +kernel
theorem dX6_rebuild_88 : decode cX6_rebuild 88 = .ok (.invokevirtual 103, 3) := by decide +kernel
theorem dX6_rebuild_91 : decode cX6_rebuild 91 = .ok (.return_, 1) := by decide +kernel
theorem dX6_joinLeftRow_0 : decode cX6_joinLeftRow 0 = .ok (.iload_n 1, 1) := by decide +kernel
theorem dX6_joinLeftRow_1 : decode cX6_joinLeftRow 1 = .ok (.invokestatic 107, 3) := by decide +kernel
theorem dX6_joinLeftRow_4 : decode cX6_joinLeftRow 4 = .ok (.istore 5, 2) := by decide +kernel
theorem dX6_joinLeftRow_6 : decode cX6_joinLeftRow 6 = .ok (.iload_n 1, 1) := by decide +kernel
theorem dX6_joinLeftRow_7 : decode cX6_joinLeftRow 7 = .ok (.invokestatic 110, 3) := by decide +kernel
theorem dX6_joinLeftRow_10 : decode cX6_joinLeftRow 10 = .ok (.istore 6, 2) := by decide +kernel
theorem dX6_joinLeftRow_12 : decode cX6_joinLeftRow 12 = .ok (.iload_n 1, 1) := by decide +kernel
theorem dX6_joinLeftRow_13 : decode cX6_joinLeftRow 13 = .ok (.invokestatic 113, 3) := by decide +kernel
theorem dX6_joinLeftRow_16 : decode cX6_joinLeftRow 16 = .ok (.istore 7, 2) := by decide +kernel
theorem dX6_joinLeftRow_18 : decode cX6_joinLeftRow 18 = .ok (.aload_n 3, 1) := by decide +kernel
theorem dX6_joinLeftRow_19 : decode cX6_joinLeftRow 19 = .ok (.iload 5, 2) := by decide +kernel
theorem dX6_joinLeftRow_21 : decode cX6_joinLeftRow 21 = .ok (.bipush (-9), 2) := by decide +kernel
theorem dX6_joinLeftRow_23 : decode cX6_joinLeftRow 23 = .ok (.invokestatic 116, 3) := by decide +kernel
theorem dX6_joinLeftRow_26 : decode cX6_joinLeftRow 26 = .ok (.invokevirtual 120, 3) := by decide +kernel
theorem dX6_joinLeftRow_29 : decode cX6_joinLeftRow 29 = .ok (.istore 8, 2) := by decide +kernel
theorem dX6_joinLeftRow_31 : decode cX6_joinLeftRow 31 = .ok (.aload_n 3, 1) := by decide +kernel
theorem dX6_joinLeftRow_32 : decode cX6_joinLeftRow 32 = .ok (.iload 5, 2) := by decide +kernel
theorem dX6_joinLeftRow_34 : decode cX6_joinLeftRow 34 = .ok (.iconst 1, 1) := by decide +kernel
theorem dX6_joinLeftRow_35 : decode cX6_joinLeftRow 35 = .ok (.iadd, 1) := by decide +kernel
theorem dX6_joinLeftRow_36 : decode cX6_joinLeftRow 36 = .ok (.bipush (-9), 2) := by decide +kernel
theorem dX6_joinLeftRow_38 : decode cX6_joinLeftRow 38 = .ok (.invokestatic 116, 3) := by decide +kernel
theorem dX6_joinLeftRow_41 : decode cX6_joinLeftRow 41 = .ok (.invokevirtual 120, 3) := by decide +kernel
theorem dX6_joinLeftRow_44 : decode cX6_joinLeftRow 44 = .ok (.istore 9, 2) := by decide +kernel
theorem dX6_joinLeftRow_46 : decode cX6_joinLeftRow 46 = .ok (.iconst 0, 1) := by decide +kernel
theorem dX6_joinLeftRow_47 : decode cX6_joinLeftRow 47 = .ok (.istore 10, 2) := by decide +kernel
theorem dX6_joinLeftRow_49 : decode cX6_joinLeftRow 49 = .ok (.iload 8, 2) := by decide +kernel
theorem dX6_joinLeftRow_51 : decode cX6_joinLeftRow 51 = .ok (.istore 11, 2) := by decide +kernel
