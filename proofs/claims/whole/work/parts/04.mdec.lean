theorem dX8_init_0 : decode cX8_init 0 = .ok (.aload_n 0, 1) := by decide +kernel
theorem dX8_init_1 : decode cX8_init 1 = .ok (.invokespecial 1, 3) := by decide +kernel
theorem dX8_init_4 : decode cX8_init 4 = .ok (.aload_n 0, 1) := by decide +kernel
theorem dX8_init_5 : decode cX8_init 5 = .ok (.sipush 258, 3) := by decide +kernel
theorem dX8_init_8 : decode cX8_init 8 = .ok (.newarray .int, 2) := by decide +kernel
theorem dX8_init_10 : decode cX8_init 10 = .ok (.putfield 7, 3) := by decide +kernel
theorem dX8_init_13 : decode cX8_init 13 = .ok (.aload_n 0, 1) := by decide +kernel
theorem dX8_init_14 : decode cX8_init 14 = .ok (.sipush 1548, 3) := by decide +kernel
theorem dX8_init_17 : decode cX8_init 17 = .ok (.newarray .int, 2) := by decide +kernel
theorem dX8_init_19 : decode cX8_init 19 = .ok (.putfield 13, 3) := by decide +kernel
theorem dX8_init_22 : decode cX8_init 22 = .ok (.aload_n 0, 1) := by decide +kernel
theorem dX8_init_23 : decode cX8_init 23 = .ok (.sipush 258, 3) := by decide +kernel
theorem dX8_init_26 : decode cX8_init 26 = .ok (.newarray .int, 2) := by decide +kernel
theorem dX8_init_28 : decode cX8_init 28 = .ok (.putfield 16, 3) := by decide +kernel
theorem dX8_init_31 : decode cX8_init 31 = .ok (.aload_n 0, 1) := by decide +kernel
theorem dX8_init_32 : decode cX8_init 32 = .ok (.sipush 258, 3) := by decide +kernel
theorem dX8_init_35 : decode cX8_init 35 = .ok (.newarray .int, 2) := by decide +kernel
theorem dX8_init_37 : decode cX8_init 37 = .ok (.putfield 19, 3) := by decide +kernel
theorem dX8_init_40 : decode cX8_init 40 = .ok (.aload_n 0, 1) := by decide +kernel
theorem dX8_init_41 : decode cX8_init 41 = .ok (.sipush 516, 3) := by decide +kernel
theorem dX8_init_44 : decode cX8_init 44 = .ok (.newarray .int, 2) := by decide +kernel
theorem dX8_init_46 : decode cX8_init 46 = .ok (.putfield 22, 3) := by decide +kernel
theorem dX8_init_49 : decode cX8_init 49 = .ok (.aload_n 0, 1) := by decide +kernel
theorem dX8_init_50 : decode cX8_init 50 = .ok (.iconst 2, 1) := by decide +kernel
theorem dX8_init_51 : decode cX8_init 51 = .ok (.newarray .boolean, 2) := by decide +kernel
theorem dX8_init_53 : decode cX8_init 53 = .ok (.putfield 25, 3) := by decide +kernel
theorem dX8_init_56 : decode cX8_init 56 = .ok (.aload_n 0, 1) := by decide +kernel
theorem dX8_init_57 : decode cX8_init 57 = .ok (.bipush 80, 2) := by decide +kernel
theorem dX8_init_59 : decode cX8_init 59 = .ok (.newarray .int, 2) := by decide +kernel
theorem dX8_init_61 : decode cX8_init 61 = .ok (.putfield 29, 3) := by decide +kernel
theorem dX8_init_64 : decode cX8_init 64 = .ok (.aload_n 0, 1) := by decide +kernel
theorem dX8_init_65 : decode cX8_init 65 = .ok (.bipush 8, 2) := by decide +kernel
theorem dX8_init_67 : decode cX8_init 67 = .ok (.newarray .int, 2) := by decide +kernel
theorem dX8_init_69 : decode cX8_init 69 = .ok (.putfield 32, 3) := by decide +kernel
theorem dX8_init_72 : decode cX8_init 72 = .ok (.aload_n 0, 1) := by decide +kernel
theorem dX8_init_73 : decode cX8_init 73 = .ok (.getfield 7, 3) := by decide +kernel
theorem dX8_init_76 : decode cX8_init 76 = .ok (.iconst 0, 1) := by decide +kernel
theorem dX8_init_77 : decode cX8_init 77 = .ok (.bipush 50, 2) := by decide +kernel
theorem dX8_init_79 : decode cX8_init 79 = .ok (.iastore, 1) := by decide +kernel
theorem dX8_init_80 : decode cX8_init 80 = .ok (.aload_n 0, 1) := by decide +kernel
theorem dX8_init_81 : decode cX8_init 81 = .ok (.getfield 7, 3) := by decide +kernel
theorem dX8_init_84 : decode cX8_init 84 = .ok (.iconst 1, 1) := by decide +kernel
theorem dX8_init_85 : decode cX8_init 85 = .ok (.sipush 200, 3) := by decide +kernel
theorem dX8_init_88 : decode cX8_init 88 = .ok (.iastore, 1) := by decide +kernel
theorem dX8_init_89 : decode cX8_init 89 = .ok (.aload_n 0, 1) := by decide +kernel
theorem dX8_init_90 : decode cX8_init 90 = .ok (.getfield 7, 3) := by decide +kernel
theorem dX8_init_93 : decode cX8_init 93 = .ok (.iconst 2, 1) := by decide +kernel
theorem dX8_init_94 : decode cX8_init 94 = .ok (.iconst 4, 1) := by decide +kernel
theorem dX8_init_95 : decode cX8_init 95 = .ok (.iastore, 1) := by decide +kernel
theorem dX8_init_96 : decode cX8_init 96 = .ok (.aload_n 0, 1) := by decide +kernel
theorem dX8_init_97 : decode cX8_init 97 = .ok (.getfield 7, 3) := by decide +kernel
theorem dX8_init_100 : decode cX8_init 100 = .ok (.iconst 3, 1) := by decide +kernel
theorem dX8_init_101 : decode cX8_init 101 = .ok (.iconst 2, 1) := by decide +kernel
theorem dX8_init_102 : decode cX8_init 102 = .ok (.iastore, 1) := by decide +kernel
theorem dX8_init_103 : decode cX8_init 103 = .ok (.aload_n 0, 1) := by decide +kernel
theorem dX8_init_104 : decode cX8_init 104 = .ok (.getfield 7, 3) := by decide +kernel
theorem dX8_init_107 : decode cX8_init 107 = .ok (.iconst 4, 1) := by decide +kernel
theorem dX8_init_108 : decode cX8_init 108 = .ok (.iconst 1, 1) := by decide +kernel
theorem dX8_init_109 : decode cX8_init 109 = .ok (.iastore, 1) := by decide +kernel
theorem dX8_init_110 : decode cX8_init 110 = .ok (.aload_n 0, 1) := by decide +kernel
theorem dX8_init_111 : decode cX8_init 111 = .ok (.getfield 7, 3) := by decide +kernel
theorem dX8_init_114 : decode cX8_init 114 = .ok (.iconst 5, 1) := by decide +kernel
theorem dX8_init_115 : decode cX8_init 115 = .ok (.iconst 2, 1) := by decide +kernel
theorem dX8_init_116 : decode cX8_init 116 = .ok (.iastore, 1) := by decide +kernel
theorem dX8_init_117 : decode cX8_init 117 = .ok (.aload_n 0, 1) := by decide +kernel
theorem dX8_init_118 : decode cX8_init 118 = .ok (.getfield 7, 3) := by decide +kernel
theorem dX8_init_121 : decode cX8_init 121 = .ok (.bipush 16, 2) := by decide +kernel
theorem dX8_init_123 : decode cX8_init 123 = .ok (.iconst 2, 1) := by decide +kernel
theorem dX8_init_124 : decode cX8_init 124 = .ok (.iastore, 1) := by decide +kernel
theorem dX8_init_125 : decode cX8_init 125 = .ok (.return_, 1) := by decide +kernel
theorem dX8_in_0 : decode cX8_in 0 = .ok (.lload_n 0, 1) := by decide +kernel
theorem dX8_in_1 : decode cX8_in 1 = .ok (.iload_n 2, 1) := by decide +kernel
theorem dX8_in_2 : decode cX8_in 2 = .ok (.i2l, 1) := by decide +kernel
theorem dX8_in_3 : decode cX8_in 3 = .ok (.lcmp, 1) := by decide +kernel
theorem dX8_in_4 : decode cX8_in 4 = .ok (.ifCond .lt 14, 3) := by decide +kernel
theorem dX8_in_7 : decode cX8_in 7 = .ok (.lload_n 0, 1) := by decide +kernel
theorem dX8_in_8 : decode cX8_in 8 = .ok (.iload_n 3, 1) := by decide +kernel
theorem dX8_in_9 : decode cX8_in 9 = .ok (.i2l, 1) := by decide +kernel
theorem dX8_in_10 : decode cX8_in 10 = .ok (.lcmp, 1) := by decide +kernel
theorem dX8_in_11 : decode cX8_in 11 = .ok (.ifCond .gt 7, 3) := by decide +kernel
theorem dX8_in_14 : decode cX8_in 14 = .ok (.iconst 1, 1) := by decide +kernel
theorem dX8_in_15 : decode cX8_in 15 = .ok (.goto 4, 3) := by decide +kernel
theorem dX8_in_18 : decode cX8_in 18 = .ok (.iconst 0, 1) := by decide +kernel
theorem dX8_in_19 : decode cX8_in 19 = .ok (.ireturn, 1) := by decide +kernel
theorem dX8_far_0 : decode cX8_far 0 = .ok (.iload_n 0, 1) := by decide +kernel
theorem dX8_far_1 : decode cX8_far 1 = .ok (.iload_n 1, 1) := by decide +kernel
theorem dX8_far_2 : decode cX8_far 2 = .ok (.if_icmp .ge 9, 3) := by decide +kernel
theorem dX8_far_5 : decode cX8_far 5 = .ok (.iload_n 1, 1) := by decide +kernel
theorem dX8_far_6 : decode cX8_far 6 = .ok (.iload_n 0, 1) := by decide +kernel
theorem dX8_far_7 : decode cX8_far 7 = .ok (.isub, 1) := by decide +kernel
theorem dX8_far_8 : decode cX8_far 8 = .ok (.goto 6, 3) := by decide +kernel
theorem dX8_far_11 : decode cX8_far 11 = .ok (.iload_n 0, 1) := by decide +kernel
theorem dX8_far_12 : decode cX8_far 12 = .ok (.iload_n 1, 1) := by decide +kernel
theorem dX8_far_13 : decode cX8_far 13 = .ok (.isub, 1) := by decide +kernel
theorem dX8_far_14 : decode cX8_far 14 = .ok (.ireturn, 1) := by decide +kernel
theorem dX8_its_0 : decode cX8_its 0 = .ok (.aload_n 0, 1) := by decide +kernel
theorem dX8_its_1 : decode cX8_its 1 = .ok (.getfield 7, 3) := by decide +kernel
theorem dX8_its_4 : decode cX8_its 4 = .ok (.bipush 78, 2) := by decide +kernel
theorem dX8_its_6 : decode cX8_its 6 = .ok (.bipush 6, 2) := by decide +kernel
theorem dX8_its_8 : decode cX8_its 8 = .ok (.iload_n 1, 1) := by decide +kernel
theorem dX8_its_9 : decode cX8_its 9 = .ok (.imul, 1) := by decide +kernel
theorem dX8_its_10 : decode cX8_its 10 = .ok (.iadd, 1) := by decide +kernel
theorem dX8_its_11 : decode cX8_its 11 = .ok (.iload_n 2, 1) := by decide +kernel
theorem dX8_its_12 : decode cX8_its 12 = .ok (.iadd, 1) := by decide +kernel
theorem dX8_its_13 : decode cX8_its 13 = .ok (.iaload, 1) := by decide +kernel
theorem dX8_its_14 : decode cX8_its 14 = .ok (.ireturn, 1) := by decide +kernel
theorem dX8_lastOf_0 : decode cX8_lastOf 0 = .ok (.aload_n 0, 1) := by decide +kernel
theorem dX8_lastOf_1 : decode cX8_lastOf 1 = .ok (.iload_n 1, 1) := by decide +kernel
theorem dX8_lastOf_2 : decode cX8_lastOf 2 = .ok (.iconst 2, 1) := by decide +kernel
theorem dX8_lastOf_3 : decode cX8_lastOf 3 = .ok (.invokevirtual 35, 3) := by decide +kernel
theorem dX8_lastOf_6 : decode cX8_lastOf 6 = .ok (.aload_n 0, 1) := by decide +kernel
theorem dX8_lastOf_7 : decode cX8_lastOf 7 = .ok (.iload_n 1, 1) := by decide +kernel
theorem dX8_lastOf_8 : decode cX8_lastOf 8 = .ok (.iconst 3, 1) := by decide +kernel
theorem dX8_lastOf_9 : decode cX8_lastOf 9 = .ok (.invokevirtual 35, 3) := by decide +kernel
theorem dX8_lastOf_12 : decode cX8_lastOf 12 = .ok (.iadd, 1) := by decide +kernel
theorem dX8_lastOf_13 : decode cX8_lastOf 13 = .ok (.iconst 1, 1) := by decide +kernel
theorem dX8_lastOf_14 : decode cX8_lastOf 14 = .ok (.isub, 1) := by decide +kernel
theorem dX8_lastOf_15 : decode cX8_lastOf 15 = .ok (.ireturn, 1) := by decide +kernel
theorem dX8_find_0 : decode cX8_find 0 = .ok (.iconst 0, 1) := by decide +kernel
theorem dX8_find_1 : decode cX8_find 1 = .ok (.istore_n 2, 1) := by decide +kernel
theorem dX8_find_2 : decode cX8_find 2 = .ok (.iload_n 2, 1) := by decide +kernel
theorem dX8_find_3 : decode cX8_find 3 = .ok (.aload_n 0, 1) := by decide +kernel
theorem dX8_find_4 : decode cX8_find 4 = .ok (.getfield 7, 3) := by decide +kernel
theorem dX8_find_7 : decode cX8_find 7 = .ok (.bipush 7, 2) := by decide +kernel
theorem dX8_find_9 : decode cX8_find 9 = .ok (.iaload, 1) := by decide +kernel
theorem dX8_find_10 : decode cX8_find 10 = .ok (.if_icmp .ge 21, 3) := by decide +kernel
theorem dX8_find_13 : decode cX8_find 13 = .ok (.aload_n 0, 1) := by decide +kernel
theorem dX8_find_14 : decode cX8_find 14 = .ok (.iload_n 2, 1) := by decide +kernel
theorem dX8_find_15 : decode cX8_find 15 = .ok (.iconst 0, 1) := by decide +kernel
theorem dX8_find_16 : decode cX8_find 16 = .ok (.invokevirtual 35, 3) := by decide +kernel
theorem dX8_find_19 : decode cX8_find 19 = .ok (.iload_n 1, 1) := by decide +kernel
theorem dX8_find_20 : decode cX8_find 20 = .ok (.if_icmp .ne 5, 3) := by decide +kernel
theorem dX8_find_23 : decode cX8_find 23 = .ok (.iload_n 2, 1) := by decide +kernel
theorem dX8_find_24 : decode cX8_find 24 = .ok (.ireturn, 1) := by decide +kernel
theorem dX8_find_25 : decode cX8_find 25 = .ok (.iinc 2 1, 3) := by decide +kernel
theorem dX8_find_28 : decode cX8_find 28 = .ok (.goto (-26), 3) := by decide +kernel
theorem dX8_find_31 : decode cX8_find 31 = .ok (.bipush (-6), 2) := by decide +kernel
theorem dX8_find_33 : decode cX8_find 33 = .ok (.ireturn, 1) := by decide +kernel
theorem dX8_many_0 : decode cX8_many 0 = .ok (.iconst 0, 1) := by decide +kernel
theorem dX8_many_1 : decode cX8_many 1 = .ok (.istore_n 2, 1) := by decide +kernel
theorem dX8_many_2 : decode cX8_many 2 = .ok (.iconst 0, 1) := by decide +kernel
theorem dX8_many_3 : decode cX8_many 3 = .ok (.istore_n 3, 1) := by decide +kernel
theorem dX8_many_4 : decode cX8_many 4 = .ok (.iload_n 3, 1) := by decide +kernel
theorem dX8_many_5 : decode cX8_many 5 = .ok (.aload_n 0, 1) := by decide +kernel
theorem dX8_many_6 : decode cX8_many 6 = .ok (.getfield 7, 3) := by decide +kernel
theorem dX8_many_9 : decode cX8_many 9 = .ok (.bipush 7, 2) := by decide +kernel
theorem dX8_many_11 : decode cX8_many 11 = .ok (.iaload, 1) := by decide +kernel
theorem dX8_many_12 : decode cX8_many 12 = .ok (.if_icmp .ge 27, 3) := by decide +kernel
theorem dX8_many_15 : decode cX8_many 15 = .ok (.iload_n 2, 1) := by decide +kernel
theorem dX8_many_16 : decode cX8_many 16 = .ok (.aload_n 0, 1) := by decide +kernel
theorem dX8_many_17 : decode cX8_many 17 = .ok (.iload_n 3, 1) := by decide +kernel
theorem dX8_many_18 : decode cX8_many 18 = .ok (.iconst 1, 1) := by decide +kernel
theorem dX8_many_19 : decode cX8_many 19 = .ok (.invokevirtual 35, 3) := by decide +kernel
theorem dX8_many_22 : decode cX8_many 22 = .ok (.iload_n 1, 1) := by decide +kernel
theorem dX8_many_23 : decode cX8_many 23 = .ok (.if_icmp .ne 7, 3) := by decide +kernel
theorem dX8_many_26 : decode cX8_many 26 = .ok (.iconst 1, 1) := by decide +kernel
theorem dX8_many_27 : decode cX8_many 27 = .ok (.goto 4, 3) := by decide +kernel
theorem dX8_many_30 : decode cX8_many 30 = .ok (.iconst 0, 1) := by decide +kernel
theorem dX8_many_31 : decode cX8_many 31 = .ok (.iadd, 1) := by decide +kernel
theorem dX8_many_32 : decode cX8_many 32 = .ok (.istore_n 2, 1) := by decide +kernel
theorem dX8_many_33 : decode cX8_many 33 = .ok (.iinc 3 1, 3) := by decide +kernel
theorem dX8_many_36 : decode cX8_many 36 = .ok (.goto (-32), 3) := by decide +kernel
theorem dX8_many_39 : decode cX8_many 39 = .ok (.iload_n 2, 1) := by decide +kernel
theorem dX8_many_40 : decode cX8_many 40 = .ok (.ireturn, 1) := by decide +kernel
theorem dX8_remember_0 : decode cX8_remember 0 = .ok (.iconst 0, 1) := by decide +kernel
theorem dX8_remember_1 : decode cX8_remember 1 = .ok (.istore_n 1, 1) := by decide +kernel
theorem dX8_remember_2 : decode cX8_remember 2 = .ok (.iload_n 1, 1) := by decide +kernel
theorem dX8_remember_3 : decode cX8_remember 3 = .ok (.sipush 258, 3) := by decide +kernel
theorem dX8_remember_6 : decode cX8_remember 6 = .ok (.if_icmp .ge 21, 3) := by decide +kernel
theorem dX8_remember_9 : decode cX8_remember 9 = .ok (.aload_n 0, 1) := by decide +kernel
theorem dX8_remember_10 : decode cX8_remember 10 = .ok (.getfield 16, 3) := by decide +kernel
theorem dX8_remember_13 : decode cX8_remember 13 = .ok (.iload_n 1, 1) := by decide +kernel
theorem dX8_remember_14 : decode cX8_remember 14 = .ok (.aload_n 0, 1) := by decide +kernel
theorem dX8_remember_15 : decode cX8_remember 15 = .ok (.getfield 7, 3) := by decide +kernel
theorem dX8_remember_18 : decode cX8_remember 18 = .ok (.iload_n 1, 1) := by decide +kernel
theorem dX8_remember_19 : decode cX8_remember 19 = .ok (.iaload, 1) := by decide +kernel
theorem dX8_remember_20 : decode cX8_remember 20 = .ok (.iastore, 1) := by decide +kernel
theorem dX8_remember_21 : decode cX8_remember 21 = .ok (.iinc 1 1, 3) := by decide +kernel
theorem dX8_remember_24 : decode cX8_remember 24 = .ok (.goto (-22), 3) := by decide +kernel
theorem dX8_remember_27 : decode cX8_remember 27 = .ok (.return_, 1) := by decide +kernel
theorem dX8_record_0 : decode cX8_record 0 = .ok (.iload_n 1, 1) := by decide +kernel
theorem dX8_record_1 : decode cX8_record 1 = .ok (.ifCond .ge 5, 3) := by decide +kernel
theorem dX8_record_4 : decode cX8_record 4 = .ok (.iload_n 1, 1) := by decide +kernel
theorem dX8_record_5 : decode cX8_record 5 = .ok (.ireturn, 1) := by decide +kernel
theorem dX8_record_6 : decode cX8_record 6 = .ok (.aload_n 0, 1) := by decide +kernel
theorem dX8_record_7 : decode cX8_record 7 = .ok (.getfield 39, 3) := by decide +kernel
theorem dX8_record_10 : decode cX8_record 10 = .ok (.bipush 6, 2) := by decide +kernel
theorem dX8_record_12 : decode cX8_record 12 = .ok (.if_icmp .ne 44, 3) := by decide +kernel
theorem dX8_record_15 : decode cX8_record 15 = .ok (.iconst 0, 1) := by decide +kernel
theorem dX8_record_16 : decode cX8_record 16 = .ok (.istore_n 2, 1) := by decide +kernel
theorem dX8_record_17 : decode cX8_record 17 = .ok (.iload_n 2, 1) := by decide +kernel
theorem dX8_record_18 : decode cX8_record 18 = .ok (.sipush 1290, 3) := by decide +kernel
theorem dX8_record_21 : decode cX8_record 21 = .ok (.if_icmp .ge 25, 3) := by decide +kernel
theorem dX8_record_24 : decode cX8_record 24 = .ok (.aload_n 0, 1) := by decide +kernel
theorem dX8_record_25 : decode cX8_record 25 = .ok (.getfield 13, 3) := by decide +kernel
theorem dX8_record_28 : decode cX8_record 28 = .ok (.iload_n 2, 1) := by decide +kernel
theorem dX8_record_29 : decode cX8_record 29 = .ok (.aload_n 0, 1) := by decide +kernel
theorem dX8_record_30 : decode cX8_record 30 = .ok (.getfield 13, 3) := by decide +kernel
theorem dX8_record_33 : decode cX8_record 33 = .ok (.sipush 258, 3) := by decide +kernel
theorem dX8_record_36 : decode cX8_record 36 = .ok (.iload_n 2, 1) := by decide +kernel
theorem dX8_record_37 : decode cX8_record 37 = .ok (.iadd, 1) := by decide +kernel
theorem dX8_record_38 : decode cX8_record 38 = .ok (.iaload, 1) := by decide +kernel
theorem dX8_record_39 : decode cX8_record 39 = .ok (.iastore, 1) := by decide +kernel
theorem dX8_record_40 : decode cX8_record 40 = .ok (.iinc 2 1, 3) := by decide +kernel
theorem dX8_record_43 : decode cX8_record 43 = .ok (.goto (-26), 3) := by decide +kernel
theorem dX8_record_46 : decode cX8_record 46 = .ok (.aload_n 0, 1) := by decide +kernel
theorem dX8_record_47 : decode cX8_record 47 = .ok (.dup, 1) := by decide +kernel
theorem dX8_record_48 : decode cX8_record 48 = .ok (.getfield 39, 3) := by decide +kernel
theorem dX8_record_51 : decode cX8_record 51 = .ok (.iconst 1, 1) := by decide +kernel
theorem dX8_record_52 : decode cX8_record 52 = .ok (.isub, 1) := by decide +kernel
theorem dX8_record_53 : decode cX8_record 53 = .ok (.putfield 39, 3) := by decide +kernel
theorem dX8_record_56 : decode cX8_record 56 = .ok (.iconst 0, 1) := by decide +kernel
theorem dX8_record_57 : decode cX8_record 57 = .ok (.istore_n 2, 1) := by decide +kernel
theorem dX8_record_58 : decode cX8_record 58 = .ok (.iload_n 2, 1) := by decide +kernel
theorem dX8_record_59 : decode cX8_record 59 = .ok (.sipush 258, 3) := by decide +kernel
theorem dX8_record_62 : decode cX8_record 62 = .ok (.if_icmp .ge 30, 3) := by decide +kernel
theorem dX8_record_65 : decode cX8_record 65 = .ok (.aload_n 0, 1) := by decide +kernel
theorem dX8_record_66 : decode cX8_record 66 = .ok (.getfield 13, 3) := by decide +kernel
theorem dX8_record_69 : decode cX8_record 69 = .ok (.sipush 258, 3) := by decide +kernel
theorem dX8_record_72 : decode cX8_record 72 = .ok (.aload_n 0, 1) := by decide +kernel
theorem dX8_record_73 : decode cX8_record 73 = .ok (.getfield 39, 3) := by decide +kernel
theorem dX8_record_76 : decode cX8_record 76 = .ok (.imul, 1) := by decide +kernel
theorem dX8_record_77 : decode cX8_record 77 = .ok (.iload_n 2, 1) := by decide +kernel
theorem dX8_record_78 : decode cX8_record 78 = .ok (.iadd, 1) := by decide +kernel
theorem dX8_record_79 : decode cX8_record 79 = .ok (.aload_n 0, 1) := by decide +kernel
theorem dX8_record_80 : decode cX8_record 80 = .ok (.getfield 16, 3) := by decide +kernel
theorem dX8_record_83 : decode cX8_record 83 = .ok (.iload_n 2, 1) := by decide +kernel
theorem dX8_record_84 : decode cX8_record 84 = .ok (.iaload, 1) := by decide +kernel
theorem dX8_record_85 : decode cX8_record 85 = .ok (.iastore, 1) := by decide +kernel
theorem dX8_record_86 : decode cX8_record 86 = .ok (.iinc 2 1, 3) := by decide +kernel
theorem dX8_record_89 : decode cX8_record 89 = .ok (.goto (-31), 3) := by decide +kernel
theorem dX8_record_92 : decode cX8_record 92 = .ok (.aload_n 0, 1) := by decide +kernel
theorem dX8_record_93 : decode cX8_record 93 = .ok (.dup, 1) := by decide +kernel
theorem dX8_record_94 : decode cX8_record 94 = .ok (.getfield 39, 3) := by decide +kernel
theorem dX8_record_97 : decode cX8_record 97 = .ok (.iconst 1, 1) := by decide +kernel
theorem dX8_record_98 : decode cX8_record 98 = .ok (.iadd, 1) := by decide +kernel
theorem dX8_record_99 : decode cX8_record 99 = .ok (.putfield 39, 3) := by decide +kernel
theorem dX8_record_102 : decode cX8_record 102 = .ok (.iload_n 1, 1) := by decide +kernel
theorem dX8_record_103 : decode cX8_record 103 = .ok (.ireturn, 1) := by decide +kernel
theorem dX8_undo_0 : decode cX8_undo 0 = .ok (.aload_n 0, 1) := by decide +kernel
theorem dX8_undo_1 : decode cX8_undo 1 = .ok (.getfield 39, 3) := by decide +kernel
theorem dX8_undo_4 : decode cX8_undo 4 = .ok (.ifCond .ne 6, 3) := by decide +kernel
theorem dX8_undo_7 : decode cX8_undo 7 = .ok (.bipush (-5), 2) := by decide +kernel
theorem dX8_undo_9 : decode cX8_undo 9 = .ok (.ireturn, 1) := by decide +kernel
theorem dX8_undo_10 : decode cX8_undo 10 = .ok (.aload_n 0, 1) := by decide +kernel
theorem dX8_undo_11 : decode cX8_undo 11 = .ok (.dup, 1) := by decide +kernel
theorem dX8_undo_12 : decode cX8_undo 12 = .ok (.getfield 39, 3) := by decide +kernel
theorem dX8_undo_15 : decode cX8_undo 15 = .ok (.iconst 1, 1) := by decide +kernel
theorem dX8_undo_16 : decode cX8_undo 16 = .ok (.isub, 1) := by decide +kernel
theorem dX8_undo_17 : decode cX8_undo 17 = .ok (.putfield 39, 3) := by decide +kernel
theorem dX8_undo_20 : decode cX8_undo 20 = .ok (.iconst 0, 1) := by decide +kernel
theorem dX8_undo_21 : decode cX8_undo 21 = .ok (.istore_n 1, 1) := by decide +kernel
theorem dX8_undo_22 : decode cX8_undo 22 = .ok (.iload_n 1, 1) := by decide +kernel
theorem dX8_undo_23 : decode cX8_undo 23 = .ok (.sipush 258, 3) := by decide +kernel
theorem dX8_undo_26 : decode cX8_undo 26 = .ok (.if_icmp .ge 30, 3) := by decide +kernel
theorem dX8_undo_29 : decode cX8_undo 29 = .ok (.aload_n 0, 1) := by decide +kernel
theorem dX8_undo_30 : decode cX8_undo 30 = .ok (.getfield 7, 3) := by decide +kernel
theorem dX8_undo_33 : decode cX8_undo 33 = .ok (.iload_n 1, 1) := by decide +kernel
theorem dX8_undo_34 : decode cX8_undo 34 = .ok (.aload_n 0, 1) := by decide +kernel
theorem dX8_undo_35 : decode cX8_undo 35 = .ok (.getfield 13, 3) := by decide +kernel
theorem dX8_undo_38 : decode cX8_undo 38 = .ok (.sipush 258, 3) := by decide +kernel
theorem dX8_undo_41 : decode cX8_undo 41 = .ok (.aload_n 0, 1) := by decide +kernel
theorem dX8_undo_42 : decode cX8_undo 42 = .ok (.getfield 39, 3) := by decide +kernel
theorem dX8_undo_45 : decode cX8_undo 45 = .ok (.imul, 1) := by decide +kernel
theorem dX8_undo_46 : decode cX8_undo 46 = .ok (.iload_n 1, 1) := by decide +kernel
theorem dX8_undo_47 : decode cX8_undo 47 = .ok (.iadd, 1) := by decide +kernel
theorem dX8_undo_48 : decode cX8_undo 48 = .ok (.iaload, 1) := by decide +kernel
theorem dX8_undo_49 : decode cX8_undo 49 = .ok (.iastore, 1) := by decide +kernel
theorem dX8_undo_50 : decode cX8_undo 50 = .ok (.iinc 1 1, 3) := by decide +kernel
theorem dX8_undo_53 : decode cX8_undo 53 = .ok (.goto (-31), 3) := by decide +kernel
theorem dX8_undo_56 : decode cX8_undo 56 = .ok (.aload_n 0, 1) := by decide +kernel
theorem dX8_undo_57 : decode cX8_undo 57 = .ok (.getfield 39, 3) := by decide +kernel
theorem dX8_undo_60 : decode cX8_undo 60 = .ok (.ireturn, 1) := by decide +kernel
theorem dX8_save_0 : decode cX8_save 0 = .ok (.iload_n 1, 1) := by decide +kernel
theorem dX8_save_1 : decode cX8_save 1 = .ok (.i2l, 1) := by decide +kernel
theorem dX8_save_2 : decode cX8_save 2 = .ok (.iconst 0, 1) := by decide +kernel
theorem dX8_save_3 : decode cX8_save 3 = .ok (.iconst 1, 1) := by decide +kernel
theorem dX8_save_4 : decode cX8_save 4 = .ok (.invokestatic 43, 3) := by decide +kernel
theorem dX8_save_7 : decode cX8_save 7 = .ok (.ifCond .ne 6, 3) := by decide +kernel
theorem dX8_save_10 : decode cX8_save 10 = .ok (.bipush (-2), 2) := by decide +kernel
theorem dX8_save_12 : decode cX8_save 12 = .ok (.ireturn, 1) := by decide +kernel
theorem dX8_save_13 : decode cX8_save 13 = .ok (.iconst 0, 1) := by decide +kernel
theorem dX8_save_14 : decode cX8_save 14 = .ok (.istore_n 2, 1) := by decide +kernel
theorem dX8_save_15 : decode cX8_save 15 = .ok (.iload_n 2, 1) := by decide +kernel
theorem dX8_save_16 : decode cX8_save 16 = .ok (.sipush 258, 3) := by decide +kernel
theorem dX8_save_19 : decode cX8_save 19 = .ok (.if_icmp .ge 27, 3) := by decide +kernel
theorem dX8_save_22 : decode cX8_save 22 = .ok (.aload_n 0, 1) := by decide +kernel
theorem dX8_save_23 : decode cX8_save 23 = .ok (.getfield 22, 3) := by decide +kernel
theorem dX8_save_26 : decode cX8_save 26 = .ok (.sipush 258, 3) := by decide +kernel
theorem dX8_save_29 : decode cX8_save 29 = .ok (.iload_n 1, 1) := by decide +kernel
theorem dX8_save_30 : decode cX8_save 30 = .ok (.imul, 1) := by decide +kernel
theorem dX8_save_31 : decode cX8_save 31 = .ok (.iload_n 2, 1) := by decide +kernel
theorem dX8_save_32 : decode cX8_save 32 = .ok (.iadd, 1) := by decide +kernel
theorem dX8_save_33 : decode cX8_save 33 = .ok (.aload_n 0, 1) := by decide +kernel
theorem dX8_save_34 : decode cX8_save 34 = .ok (.getfield 7, 3) := by decide +kernel
theorem dX8_save_37 : decode cX8_save 37 = .ok (.iload_n 2, 1) := by decide +kernel
theorem dX8_save_38 : decode cX8_save 38 = .ok (.iaload, 1) := by decide +kernel
theorem dX8_save_39 : decode cX8_save 39 = .ok (.iastore, 1) := by decide +kernel
theorem dX8_save_40 : decode cX8_save 40 = .ok (.iinc 2 1, 3) := by decide +kernel
theorem dX8_save_43 : decode cX8_save 43 = .ok (.goto (-28), 3) := by decide +kernel
theorem dX8_save_46 : decode cX8_save 46 = .ok (.aload_n 0, 1) := by decide +kernel
theorem dX8_save_47 : decode cX8_save 47 = .ok (.getfield 25, 3) := by decide +kernel
theorem dX8_save_50 : decode cX8_save 50 = .ok (.iload_n 1, 1) := by decide +kernel
theorem dX8_save_51 : decode cX8_save 51 = .ok (.iconst 1, 1) := by decide +kernel
theorem dX8_save_52 : decode cX8_save 52 = .ok (.bastore, 1) := by decide +kernel
theorem dX8_save_53 : decode cX8_save 53 = .ok (.aload_n 0, 1) := by decide +kernel
theorem dX8_save_54 : decode cX8_save 54 = .ok (.getfield 7, 3) := by decide +kernel
theorem dX8_save_57 : decode cX8_save 57 = .ok (.bipush 7, 2) := by decide +kernel
theorem dX8_save_59 : decode cX8_save 59 = .ok (.iaload, 1) := by decide +kernel
theorem dX8_save_60 : decode cX8_save 60 = .ok (.ireturn, 1) := by decide +kernel
theorem dX8_restore_0 : decode cX8_restore 0 = .ok (.iload_n 1, 1) := by decide +kernel
theorem dX8_restore_1 : decode cX8_restore 1 = .ok (.i2l, 1) := by decide +kernel
theorem dX8_restore_2 : decode cX8_restore 2 = .ok (.iconst 0, 1) := by decide +kernel
theorem dX8_restore_3 : decode cX8_restore 3 = .ok (.iconst 1, 1) := by decide +kernel
theorem dX8_restore_4 : decode cX8_restore 4 = .ok (.invokestatic 43, 3) := by decide +kernel
theorem dX8_restore_7 : decode cX8_restore 7 = .ok (.ifCond .ne 6, 3) := by decide +kernel
theorem dX8_restore_10 : decode cX8_restore 10 = .ok (.bipush (-2), 2) := by decide +kernel
theorem dX8_restore_12 : decode cX8_restore 12 = .ok (.ireturn, 1) := by decide +kernel
theorem dX8_restore_13 : decode cX8_restore 13 = .ok (.aload_n 0, 1) := by decide +kernel
theorem dX8_restore_14 : decode cX8_restore 14 = .ok (.getfield 25, 3) := by decide +kernel
theorem dX8_restore_17 : decode cX8_restore 17 = .ok (.iload_n 1, 1) := by decide +kernel
theorem dX8_restore_18 : decode cX8_restore 18 = .ok (.baload, 1) := by decide +kernel
theorem dX8_restore_19 : decode cX8_restore 19 = .ok (.ifCond .ne 6, 3) := by decide +kernel
theorem dX8_restore_22 : decode cX8_restore 22 = .ok (.bipush (-5), 2) := by decide +kernel
theorem dX8_restore_24 : decode cX8_restore 24 = .ok (.ireturn, 1) := by decide +kernel
theorem dX8_restore_25 : decode cX8_restore 25 = .ok (.aload_n 0, 1) := by decide +kernel
theorem dX8_restore_26 : decode cX8_restore 26 = .ok (.invokevirtual 47, 3) := by decide +kernel
theorem dX8_restore_29 : decode cX8_restore 29 = .ok (.iconst 0, 1) := by decide +kernel
theorem dX8_restore_30 : decode cX8_restore 30 = .ok (.istore_n 2, 1) := by decide +kernel
theorem dX8_restore_31 : decode cX8_restore 31 = .ok (.iload_n 2, 1) := by decide +kernel
theorem dX8_restore_32 : decode cX8_restore 32 = .ok (.sipush 258, 3) := by decide +kernel
theorem dX8_restore_35 : decode cX8_restore 35 = .ok (.if_icmp .ge 27, 3) := by decide +kernel
theorem dX8_restore_38 : decode cX8_restore 38 = .ok (.aload_n 0, 1) := by decide +kernel
theorem dX8_restore_39 : decode cX8_restore 39 = .ok (.getfield 7, 3) := by decide +kernel
theorem dX8_restore_42 : decode cX8_restore 42 = .ok (.iload_n 2, 1) := by decide +kernel
theorem dX8_restore_43 : decode cX8_restore 43 = .ok (.aload_n 0, 1) := by decide +kernel
theorem dX8_restore_44 : decode cX8_restore 44 = .ok (.getfield 22, 3) := by decide +kernel
theorem dX8_restore_47 : decode cX8_restore 47 = .ok (.sipush 258, 3) := by decide +kernel
theorem dX8_restore_50 : decode cX8_restore 50 = .ok (.iload_n 1, 1) := by decide +kernel
theorem dX8_restore_51 : decode cX8_restore 51 = .ok (.imul, 1) := by decide +kernel
theorem dX8_restore_52 : decode cX8_restore 52 = .ok (.iload_n 2, 1) := by decide +kernel
theorem dX8_restore_53 : decode cX8_restore 53 = .ok (.iadd, 1) := by decide +kernel
theorem dX8_restore_54 : decode cX8_restore 54 = .ok (.iaload, 1) := by decide +kernel
theorem dX8_restore_55 : decode cX8_restore 55 = .ok (.iastore, 1) := by decide +kernel
theorem dX8_restore_56 : decode cX8_restore 56 = .ok (.iinc 2 1, 3) := by decide +kernel
theorem dX8_restore_59 : decode cX8_restore 59 = .ok (.goto (-28), 3) := by decide +kernel
theorem dX8_restore_62 : decode cX8_restore 62 = .ok (.aload_n 0, 1) := by decide +kernel
theorem dX8_restore_63 : decode cX8_restore 63 = .ok (.aload_n 0, 1) := by decide +kernel
theorem dX8_restore_64 : decode cX8_restore 64 = .ok (.getfield 7, 3) := by decide +kernel
theorem dX8_restore_67 : decode cX8_restore 67 = .ok (.bipush 7, 2) := by decide +kernel
theorem dX8_restore_69 : decode cX8_restore 69 = .ok (.iaload, 1) := by decide +kernel
theorem dX8_restore_70 : decode cX8_restore 70 = .ok (.invokevirtual 50, 3) := by decide +kernel
theorem dX8_restore_73 : decode cX8_restore 73 = .ok (.ireturn, 1) := by decide +kernel
theorem dX8_layAside_0 : decode cX8_layAside 0 = .ok (.iconst 0, 1) := by decide +kernel
theorem dX8_layAside_1 : decode cX8_layAside 1 = .ok (.istore_n 1, 1) := by decide +kernel
theorem dX8_layAside_2 : decode cX8_layAside 2 = .ok (.iload_n 1, 1) := by decide +kernel
theorem dX8_layAside_3 : decode cX8_layAside 3 = .ok (.sipush 258, 3) := by decide +kernel
theorem dX8_layAside_6 : decode cX8_layAside 6 = .ok (.if_icmp .ge 21, 3) := by decide +kernel
theorem dX8_layAside_9 : decode cX8_layAside 9 = .ok (.aload_n 0, 1) := by decide +kernel
theorem dX8_layAside_10 : decode cX8_layAside 10 = .ok (.getfield 19, 3) := by decide +kernel
theorem dX8_layAside_13 : decode cX8_layAside 13 = .ok (.iload_n 1, 1) := by decide +kernel
theorem dX8_layAside_14 : decode cX8_layAside 14 = .ok (.aload_n 0, 1) := by decide +kernel
theorem dX8_layAside_15 : decode cX8_layAside 15 = .ok (.getfield 7, 3) := by decide +kernel
theorem dX8_layAside_18 : decode cX8_layAside 18 = .ok (.iload_n 1, 1) := by decide +kernel
theorem dX8_layAside_19 : decode cX8_layAside 19 = .ok (.iaload, 1) := by decide +kernel
theorem dX8_layAside_20 : decode cX8_layAside 20 = .ok (.iastore, 1) := by decide +kernel
theorem dX8_layAside_21 : decode cX8_layAside 21 = .ok (.iinc 1 1, 3) := by decide +kernel
theorem dX8_layAside_24 : decode cX8_layAside 24 = .ok (.goto (-22), 3) := by decide +kernel
theorem dX8_layAside_27 : decode cX8_layAside 27 = .ok (.return_, 1) := by decide +kernel
theorem dX8_putBack_0 : decode cX8_putBack 0 = .ok (.iconst 0, 1) := by decide +kernel
theorem dX8_putBack_1 : decode cX8_putBack 1 = .ok (.istore_n 1, 1) := by decide +kernel
theorem dX8_putBack_2 : decode cX8_putBack 2 = .ok (.iload_n 1, 1) := by decide +kernel
theorem dX8_putBack_3 : decode cX8_putBack 3 = .ok (.sipush 258, 3) := by decide +kernel
theorem dX8_putBack_6 : decode cX8_putBack 6 = .ok (.if_icmp .ge 21, 3) := by decide +kernel
theorem dX8_putBack_9 : decode cX8_putBack 9 = .ok (.aload_n 0, 1) := by decide +kernel
theorem dX8_putBack_10 : decode cX8_putBack 10 = .ok (.getfield 7, 3) := by decide +kernel
theorem dX8_putBack_13 : decode cX8_putBack 13 = .ok (.iload_n 1, 1) := by decide +kernel
theorem dX8_putBack_14 : decode cX8_putBack 14 = .ok (.aload_n 0, 1) := by decide +kernel
theorem dX8_putBack_15 : decode cX8_putBack 15 = .ok (.getfield 19, 3) := by decide +kernel
theorem dX8_putBack_18 : decode cX8_putBack 18 = .ok (.iload_n 1, 1) := by decide +kernel
theorem dX8_putBack_19 : decode cX8_putBack 19 = .ok (.iaload, 1) := by decide +kernel
theorem dX8_putBack_20 : decode cX8_putBack 20 = .ok (.iastore, 1) := by decide +kernel
theorem dX8_putBack_21 : decode cX8_putBack 21 = .ok (.iinc 1 1, 3) := by decide +kernel
theorem dX8_putBack_24 : decode cX8_putBack 24 = .ok (.goto (-22), 3) := by decide +kernel
theorem dX8_putBack_27 : decode cX8_putBack 27 = .ok (.return_, 1) := by decide +kernel
theorem dX8_lowest_0 : decode cX8_lowest 0 = .ok (.bipush (-6), 2) := by decide +kernel
theorem dX8_lowest_2 : decode cX8_lowest 2 = .ok (.istore_n 3, 1) := by decide +kernel
theorem dX8_lowest_3 : decode cX8_lowest 3 = .ok (.iconst 0, 1) := by decide +kernel
theorem dX8_lowest_4 : decode cX8_lowest 4 = .ok (.istore 4, 2) := by decide +kernel
theorem dX8_lowest_6 : decode cX8_lowest 6 = .ok (.iload 4, 2) := by decide +kernel
theorem dX8_lowest_8 : decode cX8_lowest 8 = .ok (.aload_n 0, 1) := by decide +kernel
theorem dX8_lowest_9 : decode cX8_lowest 9 = .ok (.getfield 7, 3) := by decide +kernel
theorem dX8_lowest_12 : decode cX8_lowest 12 = .ok (.bipush 7, 2) := by decide +kernel
theorem dX8_lowest_14 : decode cX8_lowest 14 = .ok (.iaload, 1) := by decide +kernel
theorem dX8_lowest_15 : decode cX8_lowest 15 = .ok (.if_icmp .ge 72, 3) := by decide +kernel
theorem dX8_lowest_18 : decode cX8_lowest 18 = .ok (.aload_n 0, 1) := by decide +kernel
theorem dX8_lowest_19 : decode cX8_lowest 19 = .ok (.iload 4, 2) := by decide +kernel
theorem dX8_lowest_21 : decode cX8_lowest 21 = .ok (.iconst 1, 1) := by decide +kernel
theorem dX8_lowest_22 : decode cX8_lowest 22 = .ok (.invokevirtual 35, 3) := by decide +kernel
theorem dX8_lowest_25 : decode cX8_lowest 25 = .ok (.iload_n 1, 1) := by decide +kernel
theorem dX8_lowest_26 : decode cX8_lowest 26 = .ok (.if_icmp .ne 18, 3) := by decide +kernel
theorem dX8_lowest_29 : decode cX8_lowest 29 = .ok (.aload_n 0, 1) := by decide +kernel
theorem dX8_lowest_30 : decode cX8_lowest 30 = .ok (.iload 4, 2) := by decide +kernel
theorem dX8_lowest_32 : decode cX8_lowest 32 = .ok (.iconst 2, 1) := by decide +kernel
theorem dX8_lowest_33 : decode cX8_lowest 33 = .ok (.invokevirtual 35, 3) := by decide +kernel
theorem dX8_lowest_36 : decode cX8_lowest 36 = .ok (.iload_n 2, 1) := by decide +kernel
theorem dX8_lowest_37 : decode cX8_lowest 37 = .ok (.if_icmp .lt 7, 3) := by decide +kernel
theorem dX8_lowest_40 : decode cX8_lowest 40 = .ok (.iconst 1, 1) := by decide +kernel
theorem dX8_lowest_41 : decode cX8_lowest 41 = .ok (.goto 4, 3) := by decide +kernel
theorem dX8_lowest_44 : decode cX8_lowest 44 = .ok (.iconst 0, 1) := by decide +kernel
theorem dX8_lowest_45 : decode cX8_lowest 45 = .ok (.istore 5, 2) := by decide +kernel
theorem dX8_lowest_47 : decode cX8_lowest 47 = .ok (.iload 5, 2) := by decide +kernel
theorem dX8_lowest_49 : decode cX8_lowest 49 = .ok (.ifCond .eq 30, 3) := by decide +kernel
theorem dX8_lowest_52 : decode cX8_lowest 52 = .ok (.iload_n 3, 1) := by decide +kernel
theorem dX8_lowest_53 : decode cX8_lowest 53 = .ok (.bipush (-6), 2) := by decide +kernel
theorem dX8_lowest_55 : decode cX8_lowest 55 = .ok (.if_icmp .eq 19, 3) := by decide +kernel
theorem dX8_lowest_58 : decode cX8_lowest 58 = .ok (.aload_n 0, 1) := by decide +kernel
theorem dX8_lowest_59 : decode cX8_lowest 59 = .ok (.iload 4, 2) := by decide +kernel
theorem dX8_lowest_61 : decode cX8_lowest 61 = .ok (.iconst 2, 1) := by decide +kernel
theorem dX8_lowest_62 : decode cX8_lowest 62 = .ok (.invokevirtual 35, 3) := by decide +kernel
theorem dX8_lowest_65 : decode cX8_lowest 65 = .ok (.aload_n 0, 1) := by decide +kernel
theorem dX8_lowest_66 : decode cX8_lowest 66 = .ok (.iload_n 3, 1) := by decide +kernel
theorem dX8_lowest_67 : decode cX8_lowest 67 = .ok (.iconst 2, 1) := by decide +kernel
theorem dX8_lowest_68 : decode cX8_lowest 68 = .ok (.invokevirtual 35, 3) := by decide +kernel
theorem dX8_lowest_71 : decode cX8_lowest 71 = .ok (.if_icmp .ge 8, 3) := by decide +kernel
theorem dX8_lowest_74 : decode cX8_lowest 74 = .ok (.iload 4, 2) := by decide +kernel
theorem dX8_lowest_76 : decode cX8_lowest 76 = .ok (.goto 4, 3) := by decide +kernel
theorem dX8_lowest_79 : decode cX8_lowest 79 = .ok (.iload_n 3, 1) := by decide +kernel
theorem dX8_lowest_80 : decode cX8_lowest 80 = .ok (.istore_n 3, 1) := by decide +kernel
theorem dX8_lowest_81 : decode cX8_lowest 81 = .ok (.iinc 4 1, 3) := by decide +kernel
theorem dX8_lowest_84 : decode cX8_lowest 84 = .ok (.goto (-78), 3) := by decide +kernel
theorem dX8_lowest_87 : decode cX8_lowest 87 = .ok (.iload_n 3, 1) := by decide +kernel
theorem dX8_lowest_88 : decode cX8_lowest 88 = .ok (.ireturn, 1) := by decide +kernel
theorem dX8_oldest_0 : decode cX8_oldest 0 = .ok (.bipush (-6), 2) := by decide +kernel
theorem dX8_oldest_2 : decode cX8_oldest 2 = .ok (.istore_n 2, 1) := by decide +kernel
theorem dX8_oldest_3 : decode cX8_oldest 3 = .ok (.iconst 0, 1) := by decide +kernel
theorem dX8_oldest_4 : decode cX8_oldest 4 = .ok (.istore_n 3, 1) := by decide +kernel
theorem dX8_oldest_5 : decode cX8_oldest 5 = .ok (.iload_n 3, 1) := by decide +kernel
theorem dX8_oldest_6 : decode cX8_oldest 6 = .ok (.aload_n 0, 1) := by decide +kernel
theorem dX8_oldest_7 : decode cX8_oldest 7 = .ok (.getfield 7, 3) := by decide +kernel
theorem dX8_oldest_10 : decode cX8_oldest 10 = .ok (.bipush 7, 2) := by decide +kernel
theorem dX8_oldest_12 : decode cX8_oldest 12 = .ok (.iaload, 1) := by decide +kernel
theorem dX8_oldest_13 : decode cX8_oldest 13 = .ok (.if_icmp .ge 46, 3) := by decide +kernel
theorem dX8_oldest_16 : decode cX8_oldest 16 = .ok (.aload_n 0, 1) := by decide +kernel
theorem dX8_oldest_17 : decode cX8_oldest 17 = .ok (.iload_n 3, 1) := by decide +kernel
theorem dX8_oldest_18 : decode cX8_oldest 18 = .ok (.iconst 1, 1) := by decide +kernel
theorem dX8_oldest_19 : decode cX8_oldest 19 = .ok (.invokevirtual 35, 3) := by decide +kernel
theorem dX8_oldest_22 : decode cX8_oldest 22 = .ok (.iload_n 1, 1) := by decide +kernel
theorem dX8_oldest_23 : decode cX8_oldest 23 = .ok (.if_icmp .ne 28, 3) := by decide +kernel
theorem dX8_oldest_26 : decode cX8_oldest 26 = .ok (.iload_n 2, 1) := by decide +kernel
theorem dX8_oldest_27 : decode cX8_oldest 27 = .ok (.bipush (-6), 2) := by decide +kernel
theorem dX8_oldest_29 : decode cX8_oldest 29 = .ok (.if_icmp .eq 18, 3) := by decide +kernel
theorem dX8_oldest_32 : decode cX8_oldest 32 = .ok (.aload_n 0, 1) := by decide +kernel
theorem dX8_oldest_33 : decode cX8_oldest 33 = .ok (.iload_n 3, 1) := by decide +kernel
theorem dX8_oldest_34 : decode cX8_oldest 34 = .ok (.iconst 4, 1) := by decide +kernel
theorem dX8_oldest_35 : decode cX8_oldest 35 = .ok (.invokevirtual 35, 3) := by decide +kernel
theorem dX8_oldest_38 : decode cX8_oldest 38 = .ok (.aload_n 0, 1) := by decide +kernel
theorem dX8_oldest_39 : decode cX8_oldest 39 = .ok (.iload_n 2, 1) := by decide +kernel
theorem dX8_oldest_40 : decode cX8_oldest 40 = .ok (.iconst 4, 1) := by decide +kernel
theorem dX8_oldest_41 : decode cX8_oldest 41 = .ok (.invokevirtual 35, 3) := by decide +kernel
theorem dX8_oldest_44 : decode cX8_oldest 44 = .ok (.if_icmp .ge 7, 3) := by decide +kernel
theorem dX8_oldest_47 : decode cX8_oldest 47 = .ok (.iload_n 3, 1) := by decide +kernel
theorem dX8_oldest_48 : decode cX8_oldest 48 = .ok (.goto 4, 3) := by decide +kernel
theorem dX8_oldest_51 : decode cX8_oldest 51 = .ok (.iload_n 2, 1) := by decide +kernel
theorem dX8_oldest_52 : decode cX8_oldest 52 = .ok (.istore_n 2, 1) := by decide +kernel
theorem dX8_oldest_53 : decode cX8_oldest 53 = .ok (.iinc 3 1, 3) := by decide +kernel
theorem dX8_oldest_56 : decode cX8_oldest 56 = .ok (.goto (-51), 3) := by decide +kernel
theorem dX8_oldest_59 : decode cX8_oldest 59 = .ok (.iload_n 2, 1) := by decide +kernel
theorem dX8_oldest_60 : decode cX8_oldest 60 = .ok (.ireturn, 1) := by decide +kernel
theorem dX8_isOld_0 : decode cX8_isOld 0 = .ok (.aload_n 0, 1) := by decide +kernel
theorem dX8_isOld_1 : decode cX8_isOld 1 = .ok (.getfield 7, 3) := by decide +kernel
theorem dX8_isOld_4 : decode cX8_isOld 4 = .ok (.bipush 6, 2) := by decide +kernel
theorem dX8_isOld_6 : decode cX8_isOld 6 = .ok (.iaload, 1) := by decide +kernel
theorem dX8_isOld_7 : decode cX8_isOld 7 = .ok (.aload_n 0, 1) := by decide +kernel
theorem dX8_isOld_8 : decode cX8_isOld 8 = .ok (.iload_n 1, 1) := by decide +kernel
theorem dX8_isOld_9 : decode cX8_isOld 9 = .ok (.iconst 4, 1) := by decide +kernel
theorem dX8_isOld_10 : decode cX8_isOld 10 = .ok (.invokevirtual 35, 3) := by decide +kernel
theorem dX8_isOld_13 : decode cX8_isOld 13 = .ok (.isub, 1) := by decide +kernel
theorem dX8_isOld_14 : decode cX8_isOld 14 = .ok (.aload_n 0, 1) := by decide +kernel
theorem dX8_isOld_15 : decode cX8_isOld 15 = .ok (.getfield 7, 3) := by decide +kernel
theorem dX8_isOld_18 : decode cX8_isOld 18 = .ok (.aload_n 0, 1) := by decide +kernel
theorem dX8_isOld_19 : decode cX8_isOld 19 = .ok (.iload_n 1, 1) := by decide +kernel
theorem dX8_isOld_20 : decode cX8_isOld 20 = .ok (.iconst 1, 1) := by decide +kernel
theorem dX8_isOld_21 : decode cX8_isOld 21 = .ok (.invokevirtual 35, 3) := by decide +kernel
theorem dX8_isOld_24 : decode cX8_isOld 24 = .ok (.iaload, 1) := by decide +kernel
theorem dX8_isOld_25 : decode cX8_isOld 25 = .ok (.if_icmp .lt 7, 3) := by decide +kernel
theorem dX8_isOld_28 : decode cX8_isOld 28 = .ok (.iconst 1, 1) := by decide +kernel
theorem dX8_isOld_29 : decode cX8_isOld 29 = .ok (.goto 4, 3) := by decide +kernel
theorem dX8_isOld_32 : decode cX8_isOld 32 = .ok (.iconst 0, 1) := by decide +kernel
theorem dX8_isOld_33 : decode cX8_isOld 33 = .ok (.ireturn, 1) := by decide +kernel
theorem dX8_nextSort_0 : decode cX8_nextSort 0 = .ok (.aload_n 0, 1) := by decide +kernel
theorem dX8_nextSort_1 : decode cX8_nextSort 1 = .ok (.iconst 1, 1) := by decide +kernel
theorem dX8_nextSort_2 : decode cX8_nextSort 2 = .ok (.invokevirtual 54, 3) := by decide +kernel
theorem dX8_nextSort_5 : decode cX8_nextSort 5 = .ok (.istore_n 1, 1) := by decide +kernel
theorem dX8_nextSort_6 : decode cX8_nextSort 6 = .ok (.iload_n 1, 1) := by decide +kernel
theorem dX8_nextSort_7 : decode cX8_nextSort 7 = .ok (.aload_n 0, 1) := by decide +kernel
theorem dX8_nextSort_8 : decode cX8_nextSort 8 = .ok (.getfield 7, 3) := by decide +kernel
theorem dX8_nextSort_11 : decode cX8_nextSort 11 = .ok (.bipush 7, 2) := by decide +kernel
theorem dX8_nextSort_13 : decode cX8_nextSort 13 = .ok (.iaload, 1) := by decide +kernel
theorem dX8_nextSort_14 : decode cX8_nextSort 14 = .ok (.if_icmp .ne 7, 3) := by decide +kernel
theorem dX8_nextSort_17 : decode cX8_nextSort 17 = .ok (.iconst 1, 1) := by decide +kernel
theorem dX8_nextSort_18 : decode cX8_nextSort 18 = .ok (.goto 32, 3) := by decide +kernel
theorem dX8_nextSort_21 : decode cX8_nextSort 21 = .ok (.iload_n 1, 1) := by decide +kernel
theorem dX8_nextSort_22 : decode cX8_nextSort 22 = .ok (.ifCond .ne 7, 3) := by decide +kernel
theorem dX8_nextSort_25 : decode cX8_nextSort 25 = .ok (.iconst 0, 1) := by decide +kernel
theorem dX8_nextSort_26 : decode cX8_nextSort 26 = .ok (.goto 24, 3) := by decide +kernel
theorem dX8_nextSort_29 : decode cX8_nextSort 29 = .ok (.aload_n 0, 1) := by decide +kernel
theorem dX8_nextSort_30 : decode cX8_nextSort 30 = .ok (.getfield 7, 3) := by decide +kernel
theorem dX8_nextSort_33 : decode cX8_nextSort 33 = .ok (.bipush 15, 2) := by decide +kernel
theorem dX8_nextSort_35 : decode cX8_nextSort 35 = .ok (.iaload, 1) := by decide +kernel
theorem dX8_nextSort_36 : decode cX8_nextSort 36 = .ok (.aload_n 0, 1) := by decide +kernel
theorem dX8_nextSort_37 : decode cX8_nextSort 37 = .ok (.getfield 7, 3) := by decide +kernel
theorem dX8_nextSort_40 : decode cX8_nextSort 40 = .ok (.iconst 3, 1) := by decide +kernel
theorem dX8_nextSort_41 : decode cX8_nextSort 41 = .ok (.iaload, 1) := by decide +kernel
theorem dX8_nextSort_42 : decode cX8_nextSort 42 = .ok (.if_icmp .lt 7, 3) := by decide +kernel
theorem dX8_nextSort_45 : decode cX8_nextSort 45 = .ok (.iconst 1, 1) := by decide +kernel
theorem dX8_nextSort_46 : decode cX8_nextSort 46 = .ok (.goto 4, 3) := by decide +kernel
theorem dX8_nextSort_49 : decode cX8_nextSort 49 = .ok (.iconst 0, 1) := by decide +kernel
theorem dX8_nextSort_50 : decode cX8_nextSort 50 = .ok (.ireturn, 1) := by decide +kernel
theorem dX8_look_0 : decode cX8_look 0 = .ok (.aload_n 0, 1) := by decide +kernel
theorem dX8_look_1 : decode cX8_look 1 = .ok (.aload_n 0, 1) := by decide +kernel
theorem dX8_look_2 : decode cX8_look 2 = .ok (.getfield 7, 3) := by decide +kernel
theorem dX8_look_5 : decode cX8_look 5 = .ok (.bipush 16, 2) := by decide +kernel
theorem dX8_look_7 : decode cX8_look 7 = .ok (.iaload, 1) := by decide +kernel
theorem dX8_look_8 : decode cX8_look 8 = .ok (.iconst 2, 1) := by decide +kernel
theorem dX8_look_9 : decode cX8_look 9 = .ok (.if_icmp .eq 40, 3) := by decide +kernel
theorem dX8_look_12 : decode cX8_look 12 = .ok (.aload_n 0, 1) := by decide +kernel
theorem dX8_look_13 : decode cX8_look 13 = .ok (.getfield 7, 3) := by decide +kernel
theorem dX8_look_16 : decode cX8_look 16 = .ok (.bipush 14, 2) := by decide +kernel
theorem dX8_look_18 : decode cX8_look 18 = .ok (.iaload, 1) := by decide +kernel
theorem dX8_look_19 : decode cX8_look 19 = .ok (.aload_n 0, 1) := by decide +kernel
theorem dX8_look_20 : decode cX8_look 20 = .ok (.getfield 7, 3) := by decide +kernel
theorem dX8_look_23 : decode cX8_look 23 = .ok (.iconst 2, 1) := by decide +kernel
theorem dX8_look_24 : decode cX8_look 24 = .ok (.iaload, 1) := by decide +kernel
theorem dX8_look_25 : decode cX8_look 25 = .ok (.if_icmp .ge 24, 3) := by decide +kernel
theorem dX8_look_28 : decode cX8_look 28 = .ok (.aload_n 0, 1) := by decide +kernel
theorem dX8_look_29 : decode cX8_look 29 = .ok (.aload_n 0, 1) := by decide +kernel
theorem dX8_look_30 : decode cX8_look 30 = .ok (.getfield 7, 3) := by decide +kernel
theorem dX8_look_33 : decode cX8_look 33 = .ok (.bipush 16, 2) := by decide +kernel
theorem dX8_look_35 : decode cX8_look 35 = .ok (.iaload, 1) := by decide +kernel
theorem dX8_look_36 : decode cX8_look 36 = .ok (.aload_n 0, 1) := by decide +kernel
theorem dX8_look_37 : decode cX8_look 37 = .ok (.getfield 7, 3) := by decide +kernel
theorem dX8_look_40 : decode cX8_look 40 = .ok (.bipush 9, 2) := by decide +kernel
theorem dX8_look_42 : decode cX8_look 42 = .ok (.iaload, 1) := by decide +kernel
theorem dX8_look_43 : decode cX8_look 43 = .ok (.invokevirtual 57, 3) := by decide +kernel
theorem dX8_look_46 : decode cX8_look 46 = .ok (.goto 5, 3) := by decide +kernel
theorem dX8_look_49 : decode cX8_look 49 = .ok (.bipush (-6), 2) := by decide +kernel
theorem dX8_look_51 : decode cX8_look 51 = .ok (.putfield 60, 3) := by decide +kernel
theorem dX8_look_54 : decode cX8_look 54 = .ok (.aload_n 0, 1) := by decide +kernel
theorem dX8_look_55 : decode cX8_look 55 = .ok (.iconst 0, 1) := by decide +kernel
theorem dX8_look_56 : decode cX8_look 56 = .ok (.putfield 63, 3) := by decide +kernel
theorem dX8_look_59 : decode cX8_look 59 = .ok (.aload_n 0, 1) := by decide +kernel
theorem dX8_look_60 : decode cX8_look 60 = .ok (.getfield 60, 3) := by decide +kernel
theorem dX8_look_63 : decode cX8_look 63 = .ok (.bipush (-6), 2) := by decide +kernel
theorem dX8_look_65 : decode cX8_look 65 = .ok (.if_icmp .eq 4, 3) := by decide +kernel
theorem dX8_look_68 : decode cX8_look 68 = .ok (.return_, 1) := by decide +kernel
theorem dX8_look_69 : decode cX8_look 69 = .ok (.aload_n 0, 1) := by decide +kernel
theorem dX8_look_70 : decode cX8_look 70 = .ok (.invokevirtual 66, 3) := by decide +kernel
theorem dX8_look_73 : decode cX8_look 73 = .ok (.istore_n 1, 1) := by decide +kernel
theorem dX8_look_74 : decode cX8_look 74 = .ok (.aload_n 0, 1) := by decide +kernel
theorem dX8_look_75 : decode cX8_look 75 = .ok (.aload_n 0, 1) := by decide +kernel
theorem dX8_look_76 : decode cX8_look 76 = .ok (.iload_n 1, 1) := by decide +kernel
theorem dX8_look_77 : decode cX8_look 77 = .ok (.invokevirtual 70, 3) := by decide +kernel
theorem dX8_look_80 : decode cX8_look 80 = .ok (.putfield 60, 3) := by decide +kernel
theorem dX8_look_83 : decode cX8_look 83 = .ok (.aload_n 0, 1) := by decide +kernel
theorem dX8_look_84 : decode cX8_look 84 = .ok (.iconst 1, 1) := by decide +kernel
theorem dX8_look_85 : decode cX8_look 85 = .ok (.putfield 63, 3) := by decide +kernel
theorem dX8_look_88 : decode cX8_look 88 = .ok (.aload_n 0, 1) := by decide +kernel
theorem dX8_look_89 : decode cX8_look 89 = .ok (.aload_n 0, 1) := by decide +kernel
theorem dX8_look_90 : decode cX8_look 90 = .ok (.getfield 60, 3) := by decide +kernel
theorem dX8_look_93 : decode cX8_look 93 = .ok (.invokevirtual 73, 3) := by decide +kernel
theorem dX8_look_96 : decode cX8_look 96 = .ok (.ifCond .ne 24, 3) := by decide +kernel
theorem dX8_look_99 : decode cX8_look 99 = .ok (.aload_n 0, 1) := by decide +kernel
theorem dX8_look_100 : decode cX8_look 100 = .ok (.aload_n 0, 1) := by decide +kernel
theorem dX8_look_101 : decode cX8_look 101 = .ok (.iload_n 1, 1) := by decide +kernel
theorem dX8_look_102 : decode cX8_look 102 = .ok (.aload_n 0, 1) := by decide +kernel
theorem dX8_look_103 : decode cX8_look 103 = .ok (.getfield 7, 3) := by decide +kernel
theorem dX8_look_106 : decode cX8_look 106 = .ok (.bipush 9, 2) := by decide +kernel
theorem dX8_look_108 : decode cX8_look 108 = .ok (.iaload, 1) := by decide +kernel
theorem dX8_look_109 : decode cX8_look 109 = .ok (.invokevirtual 57, 3) := by decide +kernel
theorem dX8_look_112 : decode cX8_look 112 = .ok (.putfield 60, 3) := by decide +kernel
theorem dX8_look_115 : decode cX8_look 115 = .ok (.aload_n 0, 1) := by decide +kernel
theorem dX8_look_116 : decode cX8_look 116 = .ok (.iconst 2, 1) := by decide +kernel
theorem dX8_look_117 : decode cX8_look 117 = .ok (.putfield 63, 3) := by decide +kernel
theorem dX8_look_120 : decode cX8_look 120 = .ok (.aload_n 0, 1) := by decide +kernel
theorem dX8_look_121 : decode cX8_look 121 = .ok (.getfield 60, 3) := by decide +kernel
theorem dX8_look_124 : decode cX8_look 124 = .ok (.bipush (-6), 2) := by decide +kernel
theorem dX8_look_126 : decode cX8_look 126 = .ok (.if_icmp .ne 18, 3) := by decide +kernel
theorem dX8_look_129 : decode cX8_look 129 = .ok (.aload_n 0, 1) := by decide +kernel
theorem dX8_look_130 : decode cX8_look 130 = .ok (.aload_n 0, 1) := by decide +kernel
theorem dX8_look_131 : decode cX8_look 131 = .ok (.iload_n 1, 1) := by decide +kernel
theorem dX8_look_132 : decode cX8_look 132 = .ok (.iconst 0, 1) := by decide +kernel
theorem dX8_look_133 : decode cX8_look 133 = .ok (.invokevirtual 57, 3) := by decide +kernel
theorem dX8_look_136 : decode cX8_look 136 = .ok (.putfield 60, 3) := by decide +kernel
theorem dX8_look_139 : decode cX8_look 139 = .ok (.aload_n 0, 1) := by decide +kernel
theorem dX8_look_140 : decode cX8_look 140 = .ok (.iconst 3, 1) := by decide +kernel
theorem dX8_look_141 : decode cX8_look 141 = .ok (.putfield 63, 3) := by decide +kernel
theorem dX8_look_144 : decode cX8_look 144 = .ok (.return_, 1) := by decide +kernel
theorem dX8_minute_0 : decode cX8_minute 0 = .ok (.aload_n 0, 1) := by decide +kernel
theorem dX8_minute_1 : decode cX8_minute 1 = .ok (.getfield 7, 3) := by decide +kernel
theorem dX8_minute_4 : decode cX8_minute 4 = .ok (.bipush 6, 2) := by decide +kernel
theorem dX8_minute_6 : decode cX8_minute 6 = .ok (.iaload, 1) := by decide +kernel
theorem dX8_minute_7 : decode cX8_minute 7 = .ok (.aload_n 0, 1) := by decide +kernel
theorem dX8_minute_8 : decode cX8_minute 8 = .ok (.getfield 7, 3) := by decide +kernel
theorem dX8_minute_11 : decode cX8_minute 11 = .ok (.iconst 4, 1) := by decide +kernel
theorem dX8_minute_12 : decode cX8_minute 12 = .ok (.iaload, 1) := by decide +kernel
theorem dX8_minute_13 : decode cX8_minute 13 = .ok (.aload_n 0, 1) := by decide +kernel
theorem dX8_minute_14 : decode cX8_minute 14 = .ok (.aload_n 0, 1) := by decide +kernel
theorem dX8_minute_15 : decode cX8_minute 15 = .ok (.getfield 60, 3) := by decide +kernel
theorem dX8_minute_18 : decode cX8_minute 18 = .ok (.iconst 2, 1) := by decide +kernel
theorem dX8_minute_19 : decode cX8_minute 19 = .ok (.invokevirtual 35, 3) := by decide +kernel
theorem dX8_minute_22 : decode cX8_minute 22 = .ok (.aload_n 0, 1) := by decide +kernel
theorem dX8_minute_23 : decode cX8_minute 23 = .ok (.getfield 7, 3) := by decide +kernel
theorem dX8_minute_26 : decode cX8_minute 26 = .ok (.bipush 9, 2) := by decide +kernel
theorem dX8_minute_28 : decode cX8_minute 28 = .ok (.iaload, 1) := by decide +kernel
theorem dX8_minute_29 : decode cX8_minute 29 = .ok (.invokestatic 77, 3) := by decide +kernel
theorem dX8_minute_32 : decode cX8_minute 32 = .ok (.imul, 1) := by decide +kernel
theorem dX8_minute_33 : decode cX8_minute 33 = .ok (.iadd, 1) := by decide +kernel
theorem dX8_minute_34 : decode cX8_minute 34 = .ok (.aload_n 0, 1) := by decide +kernel
theorem dX8_minute_35 : decode cX8_minute 35 = .ok (.getfield 7, 3) := by decide +kernel
theorem dX8_minute_38 : decode cX8_minute 38 = .ok (.iconst 5, 1) := by decide +kernel
theorem dX8_minute_39 : decode cX8_minute 39 = .ok (.iaload, 1) := by decide +kernel
theorem dX8_minute_40 : decode cX8_minute 40 = .ok (.aload_n 0, 1) := by decide +kernel
theorem dX8_minute_41 : decode cX8_minute 41 = .ok (.aload_n 0, 1) := by decide +kernel
theorem dX8_minute_42 : decode cX8_minute 42 = .ok (.getfield 60, 3) := by decide +kernel
theorem dX8_minute_45 : decode cX8_minute 45 = .ok (.iconst 3, 1) := by decide +kernel
theorem dX8_minute_46 : decode cX8_minute 46 = .ok (.invokevirtual 35, 3) := by decide +kernel
theorem dX8_minute_49 : decode cX8_minute 49 = .ok (.imul, 1) := by decide +kernel
theorem dX8_minute_50 : decode cX8_minute 50 = .ok (.iadd, 1) := by decide +kernel
theorem dX8_minute_51 : decode cX8_minute 51 = .ok (.ireturn, 1) := by decide +kernel
theorem dX8_drop_0 : decode cX8_drop 0 = .ok (.aload_n 0, 1) := by decide +kernel
theorem dX8_drop_1 : decode cX8_drop 1 = .ok (.getfield 7, 3) := by decide +kernel
theorem dX8_drop_4 : decode cX8_drop 4 = .ok (.bipush 7, 2) := by decide +kernel
theorem dX8_drop_6 : decode cX8_drop 6 = .ok (.dup2, 1) := by decide +kernel
theorem dX8_drop_7 : decode cX8_drop 7 = .ok (.iaload, 1) := by decide +kernel
theorem dX8_drop_8 : decode cX8_drop 8 = .ok (.iconst 1, 1) := by decide +kernel
theorem dX8_drop_9 : decode cX8_drop 9 = .ok (.isub, 1) := by decide +kernel
theorem dX8_drop_10 : decode cX8_drop 10 = .ok (.iastore, 1) := by decide +kernel
theorem dX8_drop_11 : decode cX8_drop 11 = .ok (.bipush 78, 2) := by decide +kernel
theorem dX8_drop_13 : decode cX8_drop 13 = .ok (.bipush 6, 2) := by decide +kernel
theorem dX8_drop_15 : decode cX8_drop 15 = .ok (.iload_n 1, 1) := by decide +kernel
theorem dX8_drop_16 : decode cX8_drop 16 = .ok (.imul, 1) := by decide +kernel
theorem dX8_drop_17 : decode cX8_drop 17 = .ok (.iadd, 1) := by decide +kernel
theorem dX8_drop_18 : decode cX8_drop 18 = .ok (.istore_n 2, 1) := by decide +kernel
theorem dX8_drop_19 : decode cX8_drop 19 = .ok (.iload_n 2, 1) := by decide +kernel
theorem dX8_drop_20 : decode cX8_drop 20 = .ok (.bipush 78, 2) := by decide +kernel
theorem dX8_drop_22 : decode cX8_drop 22 = .ok (.bipush 6, 2) := by decide +kernel
theorem dX8_drop_24 : decode cX8_drop 24 = .ok (.aload_n 0, 1) := by decide +kernel
theorem dX8_drop_25 : decode cX8_drop 25 = .ok (.getfield 7, 3) := by decide +kernel
theorem dX8_drop_28 : decode cX8_drop 28 = .ok (.bipush 7, 2) := by decide +kernel
theorem dX8_drop_30 : decode cX8_drop 30 = .ok (.iaload, 1) := by decide +kernel
theorem dX8_drop_31 : decode cX8_drop 31 = .ok (.imul, 1) := by decide +kernel
theorem dX8_drop_32 : decode cX8_drop 32 = .ok (.iadd, 1) := by decide +kernel
theorem dX8_drop_33 : decode cX8_drop 33 = .ok (.if_icmp .ge 24, 3) := by decide +kernel
theorem dX8_drop_36 : decode cX8_drop 36 = .ok (.aload_n 0, 1) := by decide +kernel
theorem dX8_drop_37 : decode cX8_drop 37 = .ok (.getfield 7, 3) := by decide +kernel
theorem dX8_drop_40 : decode cX8_drop 40 = .ok (.iload_n 2, 1) := by decide +kernel
theorem dX8_drop_41 : decode cX8_drop 41 = .ok (.aload_n 0, 1) := by decide +kernel
theorem dX8_drop_42 : decode cX8_drop 42 = .ok (.getfield 7, 3) := by decide +kernel
theorem dX8_drop_45 : decode cX8_drop 45 = .ok (.iload_n 2, 1) := by decide +kernel
theorem dX8_drop_46 : decode cX8_drop 46 = .ok (.bipush 6, 2) := by decide +kernel
theorem dX8_drop_48 : decode cX8_drop 48 = .ok (.iadd, 1) := by decide +kernel
theorem dX8_drop_49 : decode cX8_drop 49 = .ok (.iaload, 1) := by decide +kernel
theorem dX8_drop_50 : decode cX8_drop 50 = .ok (.iastore, 1) := by decide +kernel
theorem dX8_drop_51 : decode cX8_drop 51 = .ok (.iinc 2 1, 3) := by decide +kernel
theorem dX8_drop_54 : decode cX8_drop 54 = .ok (.goto (-35), 3) := by decide +kernel
theorem dX8_drop_57 : decode cX8_drop 57 = .ok (.iconst 0, 1) := by decide +kernel
theorem dX8_drop_58 : decode cX8_drop 58 = .ok (.istore_n 2, 1) := by decide +kernel
theorem dX8_drop_59 : decode cX8_drop 59 = .ok (.iload_n 2, 1) := by decide +kernel
theorem dX8_drop_60 : decode cX8_drop 60 = .ok (.bipush 6, 2) := by decide +kernel
theorem dX8_drop_62 : decode cX8_drop 62 = .ok (.if_icmp .ge 30, 3) := by decide +kernel
theorem dX8_drop_65 : decode cX8_drop 65 = .ok (.aload_n 0, 1) := by decide +kernel
theorem dX8_drop_66 : decode cX8_drop 66 = .ok (.getfield 7, 3) := by decide +kernel
theorem dX8_drop_69 : decode cX8_drop 69 = .ok (.bipush 78, 2) := by decide +kernel
theorem dX8_drop_71 : decode cX8_drop 71 = .ok (.bipush 6, 2) := by decide +kernel
theorem dX8_drop_73 : decode cX8_drop 73 = .ok (.aload_n 0, 1) := by decide +kernel
theorem dX8_drop_74 : decode cX8_drop 74 = .ok (.getfield 7, 3) := by decide +kernel
theorem dX8_drop_77 : decode cX8_drop 77 = .ok (.bipush 7, 2) := by decide +kernel
theorem dX8_drop_79 : decode cX8_drop 79 = .ok (.iaload, 1) := by decide +kernel
theorem dX8_drop_80 : decode cX8_drop 80 = .ok (.imul, 1) := by decide +kernel
theorem dX8_drop_81 : decode cX8_drop 81 = .ok (.iadd, 1) := by decide +kernel
theorem dX8_drop_82 : decode cX8_drop 82 = .ok (.iload_n 2, 1) := by decide +kernel
theorem dX8_drop_83 : decode cX8_drop 83 = .ok (.iadd, 1) := by decide +kernel
theorem dX8_drop_84 : decode cX8_drop 84 = .ok (.iconst 0, 1) := by decide +kernel
theorem dX8_drop_85 : decode cX8_drop 85 = .ok (.iastore, 1) := by decide +kernel
theorem dX8_drop_86 : decode cX8_drop 86 = .ok (.iinc 2 1, 3) := by decide +kernel
theorem dX8_drop_89 : decode cX8_drop 89 = .ok (.goto (-30), 3) := by decide +kernel
theorem dX8_drop_92 : decode cX8_drop 92 = .ok (.return_, 1) := by decide +kernel
theorem dX8_note_0 : decode cX8_note 0 = .ok (.bipush 77, 2) := by decide +kernel
theorem dX8_note_2 : decode cX8_note 2 = .ok (.istore 4, 2) := by decide +kernel
theorem dX8_note_4 : decode cX8_note 4 = .ok (.iload 4, 2) := by decide +kernel
theorem dX8_note_6 : decode cX8_note 6 = .ok (.bipush 21, 2) := by decide +kernel
theorem dX8_note_8 : decode cX8_note 8 = .ok (.if_icmp .lt 25, 3) := by decide +kernel
theorem dX8_note_11 : decode cX8_note 11 = .ok (.aload_n 0, 1) := by decide +kernel
theorem dX8_note_12 : decode cX8_note 12 = .ok (.getfield 7, 3) := by decide +kernel
theorem dX8_note_15 : decode cX8_note 15 = .ok (.iload 4, 2) := by decide +kernel
theorem dX8_note_17 : decode cX8_note 17 = .ok (.aload_n 0, 1) := by decide +kernel
theorem dX8_note_18 : decode cX8_note 18 = .ok (.getfield 7, 3) := by decide +kernel
theorem dX8_note_21 : decode cX8_note 21 = .ok (.iload 4, 2) := by decide +kernel
theorem dX8_note_23 : decode cX8_note 23 = .ok (.iconst 3, 1) := by decide +kernel
theorem dX8_note_24 : decode cX8_note 24 = .ok (.isub, 1) := by decide +kernel
theorem dX8_note_25 : decode cX8_note 25 = .ok (.iaload, 1) := by decide +kernel
theorem dX8_note_26 : decode cX8_note 26 = .ok (.iastore, 1) := by decide +kernel
theorem dX8_note_27 : decode cX8_note 27 = .ok (.iinc 4 (-1), 3) := by decide +kernel
theorem dX8_note_30 : decode cX8_note 30 = .ok (.goto (-26), 3) := by decide +kernel
theorem dX8_note_33 : decode cX8_note 33 = .ok (.aload_n 0, 1) := by decide +kernel
theorem dX8_note_34 : decode cX8_note 34 = .ok (.getfield 7, 3) := by decide +kernel
theorem dX8_note_37 : decode cX8_note 37 = .ok (.bipush 18, 2) := by decide +kernel
theorem dX8_note_39 : decode cX8_note 39 = .ok (.iload_n 1, 1) := by decide +kernel
theorem dX8_note_40 : decode cX8_note 40 = .ok (.iastore, 1) := by decide +kernel
theorem dX8_note_41 : decode cX8_note 41 = .ok (.aload_n 0, 1) := by decide +kernel
theorem dX8_note_42 : decode cX8_note 42 = .ok (.getfield 7, 3) := by decide +kernel
theorem dX8_note_45 : decode cX8_note 45 = .ok (.bipush 19, 2) := by decide +kernel
theorem dX8_note_47 : decode cX8_note 47 = .ok (.iload_n 2, 1) := by decide +kernel
theorem dX8_note_48 : decode cX8_note 48 = .ok (.iastore, 1) := by decide +kernel
theorem dX8_note_49 : decode cX8_note 49 = .ok (.aload_n 0, 1) := by decide +kernel
theorem dX8_note_50 : decode cX8_note 50 = .ok (.getfield 7, 3) := by decide +kernel
theorem dX8_note_53 : decode cX8_note 53 = .ok (.bipush 20, 2) := by decide +kernel
theorem dX8_note_55 : decode cX8_note 55 = .ok (.iload_n 3, 1) := by decide +kernel
theorem dX8_note_56 : decode cX8_note 56 = .ok (.iastore, 1) := by decide +kernel
theorem dX8_note_57 : decode cX8_note 57 = .ok (.aload_n 0, 1) := by decide +kernel
theorem dX8_note_58 : decode cX8_note 58 = .ok (.getfield 7, 3) := by decide +kernel
theorem dX8_note_61 : decode cX8_note 61 = .ok (.bipush 17, 2) := by decide +kernel
theorem dX8_note_63 : decode cX8_note 63 = .ok (.dup2, 1) := by decide +kernel
theorem dX8_note_64 : decode cX8_note 64 = .ok (.iaload, 1) := by decide +kernel
theorem dX8_note_65 : decode cX8_note 65 = .ok (.aload_n 0, 1) := by decide +kernel
theorem dX8_note_66 : decode cX8_note 66 = .ok (.getfield 7, 3) := by decide +kernel
theorem dX8_note_69 : decode cX8_note 69 = .ok (.bipush 17, 2) := by decide +kernel
theorem dX8_note_71 : decode cX8_note 71 = .ok (.iaload, 1) := by decide +kernel
theorem dX8_note_72 : decode cX8_note 72 = .ok (.bipush 20, 2) := by decide +kernel
theorem dX8_note_74 : decode cX8_note 74 = .ok (.if_icmp .ge 7, 3) := by decide +kernel
theorem dX8_note_77 : decode cX8_note 77 = .ok (.iconst 1, 1) := by decide +kernel
theorem dX8_note_78 : decode cX8_note 78 = .ok (.goto 4, 3) := by decide +kernel
theorem dX8_note_81 : decode cX8_note 81 = .ok (.iconst 0, 1) := by decide +kernel
theorem dX8_note_82 : decode cX8_note 82 = .ok (.iadd, 1) := by decide +kernel
theorem dX8_note_83 : decode cX8_note 83 = .ok (.iastore, 1) := by decide +kernel
theorem dX8_note_84 : decode cX8_note 84 = .ok (.return_, 1) := by decide +kernel
theorem dX8_serveOne_0 : decode cX8_serveOne 0 = .ok (.aload_n 0, 1) := by decide +kernel
theorem dX8_serveOne_1 : decode cX8_serveOne 1 = .ok (.invokevirtual 80, 3) := by decide +kernel
theorem dX8_serveOne_4 : decode cX8_serveOne 4 = .ok (.aload_n 0, 1) := by decide +kernel
theorem dX8_serveOne_5 : decode cX8_serveOne 5 = .ok (.aload_n 0, 1) := by decide +kernel
theorem dX8_serveOne_6 : decode cX8_serveOne 6 = .ok (.getfield 60, 3) := by decide +kernel
theorem dX8_serveOne_9 : decode cX8_serveOne 9 = .ok (.iconst 1, 1) := by decide +kernel
theorem dX8_serveOne_10 : decode cX8_serveOne 10 = .ok (.invokevirtual 35, 3) := by decide +kernel
theorem dX8_serveOne_13 : decode cX8_serveOne 13 = .ok (.istore_n 1, 1) := by decide +kernel
theorem dX8_serveOne_14 : decode cX8_serveOne 14 = .ok (.aload_n 0, 1) := by decide +kernel
theorem dX8_serveOne_15 : decode cX8_serveOne 15 = .ok (.getfield 63, 3) := by decide +kernel
theorem dX8_serveOne_18 : decode cX8_serveOne 18 = .ok (.ifCond .le 67, 3) := by decide +kernel
theorem dX8_serveOne_21 : decode cX8_serveOne 21 = .ok (.aload_n 0, 1) := by decide +kernel
theorem dX8_serveOne_22 : decode cX8_serveOne 22 = .ok (.getfield 7, 3) := by decide +kernel
theorem dX8_serveOne_25 : decode cX8_serveOne 25 = .ok (.bipush 15, 2) := by decide +kernel
theorem dX8_serveOne_27 : decode cX8_serveOne 27 = .ok (.iload_n 1, 1) := by decide +kernel
theorem dX8_serveOne_28 : decode cX8_serveOne 28 = .ok (.iconst 1, 1) := by decide +kernel
theorem dX8_serveOne_29 : decode cX8_serveOne 29 = .ok (.if_icmp .ne 7, 3) := by decide +kernel
theorem dX8_serveOne_32 : decode cX8_serveOne 32 = .ok (.iconst 0, 1) := by decide +kernel
theorem dX8_serveOne_33 : decode cX8_serveOne 33 = .ok (.goto 24, 3) := by decide +kernel
theorem dX8_serveOne_36 : decode cX8_serveOne 36 = .ok (.aload_n 0, 1) := by decide +kernel
theorem dX8_serveOne_37 : decode cX8_serveOne 37 = .ok (.getfield 7, 3) := by decide +kernel
theorem dX8_serveOne_40 : decode cX8_serveOne 40 = .ok (.bipush 15, 2) := by decide +kernel
theorem dX8_serveOne_42 : decode cX8_serveOne 42 = .ok (.iaload, 1) := by decide +kernel
theorem dX8_serveOne_43 : decode cX8_serveOne 43 = .ok (.aload_n 0, 1) := by decide +kernel
theorem dX8_serveOne_44 : decode cX8_serveOne 44 = .ok (.iconst 1, 1) := by decide +kernel
theorem dX8_serveOne_45 : decode cX8_serveOne 45 = .ok (.invokevirtual 54, 3) := by decide +kernel
theorem dX8_serveOne_48 : decode cX8_serveOne 48 = .ok (.ifCond .le 7, 3) := by decide +kernel
theorem dX8_serveOne_51 : decode cX8_serveOne 51 = .ok (.iconst 1, 1) := by decide +kernel
theorem dX8_serveOne_52 : decode cX8_serveOne 52 = .ok (.goto 4, 3) := by decide +kernel
theorem dX8_serveOne_55 : decode cX8_serveOne 55 = .ok (.iconst 0, 1) := by decide +kernel
theorem dX8_serveOne_56 : decode cX8_serveOne 56 = .ok (.iadd, 1) := by decide +kernel
theorem dX8_serveOne_57 : decode cX8_serveOne 57 = .ok (.iastore, 1) := by decide +kernel
theorem dX8_serveOne_58 : decode cX8_serveOne 58 = .ok (.aload_n 0, 1) := by decide +kernel
theorem dX8_serveOne_59 : decode cX8_serveOne 59 = .ok (.getfield 7, 3) := by decide +kernel
theorem dX8_serveOne_62 : decode cX8_serveOne 62 = .ok (.bipush 13, 2) := by decide +kernel
theorem dX8_serveOne_64 : decode cX8_serveOne 64 = .ok (.dup2, 1) := by decide +kernel
theorem dX8_serveOne_65 : decode cX8_serveOne 65 = .ok (.iaload, 1) := by decide +kernel
theorem dX8_serveOne_66 : decode cX8_serveOne 66 = .ok (.iconst 1, 1) := by decide +kernel
theorem dX8_serveOne_67 : decode cX8_serveOne 67 = .ok (.iadd, 1) := by decide +kernel
theorem dX8_serveOne_68 : decode cX8_serveOne 68 = .ok (.iastore, 1) := by decide +kernel
theorem dX8_serveOne_69 : decode cX8_serveOne 69 = .ok (.aload_n 0, 1) := by decide +kernel
theorem dX8_serveOne_70 : decode cX8_serveOne 70 = .ok (.getfield 7, 3) := by decide +kernel
theorem dX8_serveOne_73 : decode cX8_serveOne 73 = .ok (.bipush 14, 2) := by decide +kernel
theorem dX8_serveOne_75 : decode cX8_serveOne 75 = .ok (.iconst 0, 1) := by decide +kernel
theorem dX8_serveOne_76 : decode cX8_serveOne 76 = .ok (.iastore, 1) := by decide +kernel
theorem dX8_serveOne_77 : decode cX8_serveOne 77 = .ok (.aload_n 0, 1) := by decide +kernel
theorem dX8_serveOne_78 : decode cX8_serveOne 78 = .ok (.getfield 7, 3) := by decide +kernel
theorem dX8_serveOne_81 : decode cX8_serveOne 81 = .ok (.bipush 16, 2) := by decide +kernel
theorem dX8_serveOne_83 : decode cX8_serveOne 83 = .ok (.iload_n 1, 1) := by decide +kernel
theorem dX8_serveOne_84 : decode cX8_serveOne 84 = .ok (.iastore, 1) := by decide +kernel
theorem dX8_serveOne_85 : decode cX8_serveOne 85 = .ok (.aload_n 0, 1) := by decide +kernel
theorem dX8_serveOne_86 : decode cX8_serveOne 86 = .ok (.getfield 7, 3) := by decide +kernel
theorem dX8_serveOne_89 : decode cX8_serveOne 89 = .ok (.bipush 14, 2) := by decide +kernel
theorem dX8_serveOne_91 : decode cX8_serveOne 91 = .ok (.dup2, 1) := by decide +kernel
theorem dX8_serveOne_92 : decode cX8_serveOne 92 = .ok (.iaload, 1) := by decide +kernel
theorem dX8_serveOne_93 : decode cX8_serveOne 93 = .ok (.iconst 1, 1) := by decide +kernel
theorem dX8_serveOne_94 : decode cX8_serveOne 94 = .ok (.iadd, 1) := by decide +kernel
theorem dX8_serveOne_95 : decode cX8_serveOne 95 = .ok (.iastore, 1) := by decide +kernel
theorem dX8_serveOne_96 : decode cX8_serveOne 96 = .ok (.aload_n 0, 1) := by decide +kernel
theorem dX8_serveOne_97 : decode cX8_serveOne 97 = .ok (.invokevirtual 83, 3) := by decide +kernel
theorem dX8_serveOne_100 : decode cX8_serveOne 100 = .ok (.istore_n 2, 1) := by decide +kernel
theorem dX8_serveOne_101 : decode cX8_serveOne 101 = .ok (.iload_n 2, 1) := by decide +kernel
theorem dX8_serveOne_102 : decode cX8_serveOne 102 = .ok (.aload_n 0, 1) := by decide +kernel
theorem dX8_serveOne_103 : decode cX8_serveOne 103 = .ok (.aload_n 0, 1) := by decide +kernel
theorem dX8_serveOne_104 : decode cX8_serveOne 104 = .ok (.getfield 60, 3) := by decide +kernel
theorem dX8_serveOne_107 : decode cX8_serveOne 107 = .ok (.iconst 4, 1) := by decide +kernel
theorem dX8_serveOne_108 : decode cX8_serveOne 108 = .ok (.invokevirtual 35, 3) := by decide +kernel
theorem dX8_serveOne_111 : decode cX8_serveOne 111 = .ok (.isub, 1) := by decide +kernel
theorem dX8_serveOne_112 : decode cX8_serveOne 112 = .ok (.istore_n 3, 1) := by decide +kernel
theorem dX8_serveOne_113 : decode cX8_serveOne 113 = .ok (.aload_n 0, 1) := by decide +kernel
theorem dX8_serveOne_114 : decode cX8_serveOne 114 = .ok (.getfield 7, 3) := by decide +kernel
theorem dX8_serveOne_117 : decode cX8_serveOne 117 = .ok (.bipush 12, 2) := by decide +kernel
theorem dX8_serveOne_119 : decode cX8_serveOne 119 = .ok (.dup2, 1) := by decide +kernel
theorem dX8_serveOne_120 : decode cX8_serveOne 120 = .ok (.iaload, 1) := by decide +kernel
theorem dX8_serveOne_121 : decode cX8_serveOne 121 = .ok (.aload_n 0, 1) := by decide +kernel
theorem dX8_serveOne_122 : decode cX8_serveOne 122 = .ok (.aload_n 0, 1) := by decide +kernel
theorem dX8_serveOne_123 : decode cX8_serveOne 123 = .ok (.getfield 60, 3) := by decide +kernel
theorem dX8_serveOne_126 : decode cX8_serveOne 126 = .ok (.iconst 2, 1) := by decide +kernel
theorem dX8_serveOne_127 : decode cX8_serveOne 127 = .ok (.invokevirtual 35, 3) := by decide +kernel
theorem dX8_serveOne_130 : decode cX8_serveOne 130 = .ok (.aload_n 0, 1) := by decide +kernel
theorem dX8_serveOne_131 : decode cX8_serveOne 131 = .ok (.getfield 7, 3) := by decide +kernel
theorem dX8_serveOne_134 : decode cX8_serveOne 134 = .ok (.bipush 9, 2) := by decide +kernel
theorem dX8_serveOne_136 : decode cX8_serveOne 136 = .ok (.iaload, 1) := by decide +kernel
theorem dX8_serveOne_137 : decode cX8_serveOne 137 = .ok (.invokestatic 77, 3) := by decide +kernel
theorem dX8_serveOne_140 : decode cX8_serveOne 140 = .ok (.iadd, 1) := by decide +kernel
theorem dX8_serveOne_141 : decode cX8_serveOne 141 = .ok (.iastore, 1) := by decide +kernel
theorem dX8_serveOne_142 : decode cX8_serveOne 142 = .ok (.aload_n 0, 1) := by decide +kernel
theorem dX8_serveOne_143 : decode cX8_serveOne 143 = .ok (.getfield 7, 3) := by decide +kernel
theorem dX8_serveOne_146 : decode cX8_serveOne 146 = .ok (.bipush 9, 2) := by decide +kernel
theorem dX8_serveOne_148 : decode cX8_serveOne 148 = .ok (.aload_n 0, 1) := by decide +kernel
theorem dX8_serveOne_149 : decode cX8_serveOne 149 = .ok (.aload_n 0, 1) := by decide +kernel
theorem dX8_serveOne_150 : decode cX8_serveOne 150 = .ok (.getfield 60, 3) := by decide +kernel
theorem dX8_serveOne_153 : decode cX8_serveOne 153 = .ok (.invokevirtual 86, 3) := by decide +kernel
theorem dX8_serveOne_156 : decode cX8_serveOne 156 = .ok (.bipush 99, 2) := by decide +kernel
theorem dX8_serveOne_158 : decode cX8_serveOne 158 = .ok (.if_icmp .ge 16, 3) := by decide +kernel
theorem dX8_serveOne_161 : decode cX8_serveOne 161 = .ok (.aload_n 0, 1) := by decide +kernel
theorem dX8_serveOne_162 : decode cX8_serveOne 162 = .ok (.aload_n 0, 1) := by decide +kernel
theorem dX8_serveOne_163 : decode cX8_serveOne 163 = .ok (.getfield 60, 3) := by decide +kernel
theorem dX8_serveOne_166 : decode cX8_serveOne 166 = .ok (.invokevirtual 86, 3) := by decide +kernel
theorem dX8_serveOne_169 : decode cX8_serveOne 169 = .ok (.iconst 1, 1) := by decide +kernel
theorem dX8_serveOne_170 : decode cX8_serveOne 170 = .ok (.iadd, 1) := by decide +kernel
theorem dX8_serveOne_171 : decode cX8_serveOne 171 = .ok (.goto 5, 3) := by decide +kernel
theorem dX8_serveOne_174 : decode cX8_serveOne 174 = .ok (.bipush 99, 2) := by decide +kernel
theorem dX8_serveOne_176 : decode cX8_serveOne 176 = .ok (.iastore, 1) := by decide +kernel
theorem dX8_serveOne_177 : decode cX8_serveOne 177 = .ok (.aload_n 0, 1) := by decide +kernel
theorem dX8_serveOne_178 : decode cX8_serveOne 178 = .ok (.getfield 7, 3) := by decide +kernel
theorem dX8_serveOne_181 : decode cX8_serveOne 181 = .ok (.bipush 6, 2) := by decide +kernel
theorem dX8_serveOne_183 : decode cX8_serveOne 183 = .ok (.iload_n 2, 1) := by decide +kernel
theorem dX8_serveOne_184 : decode cX8_serveOne 184 = .ok (.iastore, 1) := by decide +kernel
theorem dX8_serveOne_185 : decode cX8_serveOne 185 = .ok (.aload_n 0, 1) := by decide +kernel
theorem dX8_serveOne_186 : decode cX8_serveOne 186 = .ok (.getfield 7, 3) := by decide +kernel
theorem dX8_serveOne_189 : decode cX8_serveOne 189 = .ok (.bipush 10, 2) := by decide +kernel
theorem dX8_serveOne_191 : decode cX8_serveOne 191 = .ok (.dup2, 1) := by decide +kernel
theorem dX8_serveOne_192 : decode cX8_serveOne 192 = .ok (.iaload, 1) := by decide +kernel
theorem dX8_serveOne_193 : decode cX8_serveOne 193 = .ok (.iconst 1, 1) := by decide +kernel
theorem dX8_serveOne_194 : decode cX8_serveOne 194 = .ok (.iadd, 1) := by decide +kernel
theorem dX8_serveOne_195 : decode cX8_serveOne 195 = .ok (.iastore, 1) := by decide +kernel
theorem dX8_serveOne_196 : decode cX8_serveOne 196 = .ok (.aload_n 0, 1) := by decide +kernel
theorem dX8_serveOne_197 : decode cX8_serveOne 197 = .ok (.getfield 7, 3) := by decide +kernel
theorem dX8_serveOne_200 : decode cX8_serveOne 200 = .ok (.bipush 11, 2) := by decide +kernel
theorem dX8_serveOne_202 : decode cX8_serveOne 202 = .ok (.iload_n 3, 1) := by decide +kernel
theorem dX8_serveOne_203 : decode cX8_serveOne 203 = .ok (.aload_n 0, 1) := by decide +kernel
theorem dX8_serveOne_204 : decode cX8_serveOne 204 = .ok (.getfield 7, 3) := by decide +kernel
theorem dX8_serveOne_207 : decode cX8_serveOne 207 = .ok (.bipush 11, 2) := by decide +kernel
theorem dX8_serveOne_209 : decode cX8_serveOne 209 = .ok (.iaload, 1) := by decide +kernel
theorem dX8_serveOne_210 : decode cX8_serveOne 210 = .ok (.if_icmp .le 7, 3) := by decide +kernel
theorem dX8_serveOne_213 : decode cX8_serveOne 213 = .ok (.iload_n 3, 1) := by decide +kernel
theorem dX8_serveOne_214 : decode cX8_serveOne 214 = .ok (.goto 10, 3) := by decide +kernel
theorem dX8_serveOne_217 : decode cX8_serveOne 217 = .ok (.aload_n 0, 1) := by decide +kernel
theorem dX8_serveOne_218 : decode cX8_serveOne 218 = .ok (.getfield 7, 3) := by decide +kernel
theorem dX8_serveOne_221 : decode cX8_serveOne 221 = .ok (.bipush 11, 2) := by decide +kernel
theorem dX8_serveOne_223 : decode cX8_serveOne 223 = .ok (.iaload, 1) := by decide +kernel
theorem dX8_serveOne_224 : decode cX8_serveOne 224 = .ok (.iastore, 1) := by decide +kernel
theorem dX8_serveOne_225 : decode cX8_serveOne 225 = .ok (.aload_n 0, 1) := by decide +kernel
theorem dX8_serveOne_226 : decode cX8_serveOne 226 = .ok (.aload_n 0, 1) := by decide +kernel
theorem dX8_serveOne_227 : decode cX8_serveOne 227 = .ok (.aload_n 0, 1) := by decide +kernel
theorem dX8_serveOne_228 : decode cX8_serveOne 228 = .ok (.getfield 60, 3) := by decide +kernel
theorem dX8_serveOne_231 : decode cX8_serveOne 231 = .ok (.iconst 0, 1) := by decide +kernel
theorem dX8_serveOne_232 : decode cX8_serveOne 232 = .ok (.invokevirtual 35, 3) := by decide +kernel
theorem dX8_serveOne_235 : decode cX8_serveOne 235 = .ok (.iload_n 3, 1) := by decide +kernel
theorem dX8_serveOne_236 : decode cX8_serveOne 236 = .ok (.iload_n 1, 1) := by decide +kernel
theorem dX8_serveOne_237 : decode cX8_serveOne 237 = .ok (.invokevirtual 89, 3) := by decide +kernel
theorem dX8_serveOne_240 : decode cX8_serveOne 240 = .ok (.aload_n 0, 1) := by decide +kernel
theorem dX8_serveOne_241 : decode cX8_serveOne 241 = .ok (.aload_n 0, 1) := by decide +kernel
theorem dX8_serveOne_242 : decode cX8_serveOne 242 = .ok (.getfield 60, 3) := by decide +kernel
theorem dX8_serveOne_245 : decode cX8_serveOne 245 = .ok (.invokevirtual 93, 3) := by decide +kernel
theorem dX8_serveOne_248 : decode cX8_serveOne 248 = .ok (.return_, 1) := by decide +kernel
theorem dX8_isSlip_0 : decode cX8_isSlip 0 = .ok (.iload_n 0, 1) := by decide +kernel
theorem dX8_isSlip_1 : decode cX8_isSlip 1 = .ok (.i2l, 1) := by decide +kernel
theorem dX8_isSlip_2 : decode cX8_isSlip 2 = .ok (.iconst 0, 1) := by decide +kernel
theorem dX8_isSlip_3 : decode cX8_isSlip 3 = .ok (.iconst 1, 1) := by decide +kernel
theorem dX8_isSlip_4 : decode cX8_isSlip 4 = .ok (.invokestatic 43, 3) := by decide +kernel
theorem dX8_isSlip_7 : decode cX8_isSlip 7 = .ok (.ifCond .eq 37, 3) := by decide +kernel
theorem dX8_isSlip_10 : decode cX8_isSlip 10 = .ok (.iload_n 1, 1) := by decide +kernel
theorem dX8_isSlip_11 : decode cX8_isSlip 11 = .ok (.i2l, 1) := by decide +kernel
theorem dX8_isSlip_12 : decode cX8_isSlip 12 = .ok (.iconst 0, 1) := by decide +kernel
theorem dX8_isSlip_13 : decode cX8_isSlip 13 = .ok (.bipush 99, 2) := by decide +kernel
theorem dX8_isSlip_15 : decode cX8_isSlip 15 = .ok (.invokestatic 43, 3) := by decide +kernel
theorem dX8_isSlip_18 : decode cX8_isSlip 18 = .ok (.ifCond .eq 26, 3) := by decide +kernel
theorem dX8_isSlip_21 : decode cX8_isSlip 21 = .ok (.iload_n 2, 1) := by decide +kernel
theorem dX8_isSlip_22 : decode cX8_isSlip 22 = .ok (.i2l, 1) := by decide +kernel
theorem dX8_isSlip_23 : decode cX8_isSlip 23 = .ok (.iconst 1, 1) := by decide +kernel
theorem dX8_isSlip_24 : decode cX8_isSlip 24 = .ok (.bipush 9, 2) := by decide +kernel
theorem dX8_isSlip_26 : decode cX8_isSlip 26 = .ok (.invokestatic 43, 3) := by decide +kernel
theorem dX8_isSlip_29 : decode cX8_isSlip 29 = .ok (.ifCond .eq 15, 3) := by decide +kernel
theorem dX8_isSlip_32 : decode cX8_isSlip 32 = .ok (.iload_n 1, 1) := by decide +kernel
theorem dX8_isSlip_33 : decode cX8_isSlip 33 = .ok (.iload_n 2, 1) := by decide +kernel
theorem dX8_isSlip_34 : decode cX8_isSlip 34 = .ok (.iadd, 1) := by decide +kernel
theorem dX8_isSlip_35 : decode cX8_isSlip 35 = .ok (.bipush 100, 2) := by decide +kernel
theorem dX8_isSlip_37 : decode cX8_isSlip 37 = .ok (.if_icmp .gt 7, 3) := by decide +kernel
theorem dX8_isSlip_40 : decode cX8_isSlip 40 = .ok (.iconst 1, 1) := by decide +kernel
theorem dX8_isSlip_41 : decode cX8_isSlip 41 = .ok (.goto 4, 3) := by decide +kernel
theorem dX8_isSlip_44 : decode cX8_isSlip 44 = .ok (.iconst 0, 1) := by decide +kernel
theorem dX8_isSlip_45 : decode cX8_isSlip 45 = .ok (.ireturn, 1) := by decide +kernel
theorem dX8_partner_0 : decode cX8_partner 0 = .ok (.iconst 0, 1) := by decide +kernel
theorem dX8_partner_1 : decode cX8_partner 1 = .ok (.istore 4, 2) := by decide +kernel
theorem dX8_partner_3 : decode cX8_partner 3 = .ok (.iload 4, 2) := by decide +kernel
theorem dX8_partner_5 : decode cX8_partner 5 = .ok (.aload_n 0, 1) := by decide +kernel
theorem dX8_partner_6 : decode cX8_partner 6 = .ok (.getfield 7, 3) := by decide +kernel
theorem dX8_partner_9 : decode cX8_partner 9 = .ok (.bipush 7, 2) := by decide +kernel
theorem dX8_partner_11 : decode cX8_partner 11 = .ok (.iaload, 1) := by decide +kernel
theorem dX8_partner_12 : decode cX8_partner 12 = .ok (.if_icmp .ge 49, 3) := by decide +kernel
theorem dX8_partner_15 : decode cX8_partner 15 = .ok (.aload_n 0, 1) := by decide +kernel
theorem dX8_partner_16 : decode cX8_partner 16 = .ok (.iload 4, 2) := by decide +kernel
theorem dX8_partner_18 : decode cX8_partner 18 = .ok (.iconst 1, 1) := by decide +kernel
theorem dX8_partner_19 : decode cX8_partner 19 = .ok (.invokevirtual 35, 3) := by decide +kernel
theorem dX8_partner_22 : decode cX8_partner 22 = .ok (.iload_n 1, 1) := by decide +kernel
theorem dX8_partner_23 : decode cX8_partner 23 = .ok (.if_icmp .ne 32, 3) := by decide +kernel
theorem dX8_partner_26 : decode cX8_partner 26 = .ok (.aload_n 0, 1) := by decide +kernel
theorem dX8_partner_27 : decode cX8_partner 27 = .ok (.iload 4, 2) := by decide +kernel
theorem dX8_partner_29 : decode cX8_partner 29 = .ok (.invokevirtual 86, 3) := by decide +kernel
theorem dX8_partner_32 : decode cX8_partner 32 = .ok (.iload_n 2, 1) := by decide +kernel
theorem dX8_partner_33 : decode cX8_partner 33 = .ok (.iconst 1, 1) := by decide +kernel
theorem dX8_partner_34 : decode cX8_partner 34 = .ok (.isub, 1) := by decide +kernel
theorem dX8_partner_35 : decode cX8_partner 35 = .ok (.if_icmp .ne 20, 3) := by decide +kernel
theorem dX8_partner_38 : decode cX8_partner 38 = .ok (.aload_n 0, 1) := by decide +kernel
theorem dX8_partner_39 : decode cX8_partner 39 = .ok (.iload 4, 2) := by decide +kernel
theorem dX8_partner_41 : decode cX8_partner 41 = .ok (.iconst 3, 1) := by decide +kernel
theorem dX8_partner_42 : decode cX8_partner 42 = .ok (.invokevirtual 35, 3) := by decide +kernel
theorem dX8_partner_45 : decode cX8_partner 45 = .ok (.iload_n 3, 1) := by decide +kernel
theorem dX8_partner_46 : decode cX8_partner 46 = .ok (.iadd, 1) := by decide +kernel
theorem dX8_partner_47 : decode cX8_partner 47 = .ok (.bipush 9, 2) := by decide +kernel
theorem dX8_partner_49 : decode cX8_partner 49 = .ok (.if_icmp .gt 6, 3) := by decide +kernel
theorem dX8_partner_52 : decode cX8_partner 52 = .ok (.iload 4, 2) := by decide +kernel
theorem dX8_partner_54 : decode cX8_partner 54 = .ok (.ireturn, 1) := by decide +kernel
theorem dX8_partner_55 : decode cX8_partner 55 = .ok (.iinc 4 1, 3) := by decide +kernel
theorem dX8_partner_58 : decode cX8_partner 58 = .ok (.goto (-55), 3) := by decide +kernel
theorem dX8_partner_61 : decode cX8_partner 61 = .ok (.bipush (-6), 2) := by decide +kernel
theorem dX8_partner_63 : decode cX8_partner 63 = .ok (.ireturn, 1) := by decide +kernel
theorem dX8_comes_0 : decode cX8_comes 0 = .ok (.iload_n 1, 1) := by decide +kernel
theorem dX8_comes_1 : decode cX8_comes 1 = .ok (.iload_n 2, 1) := by decide +kernel
theorem dX8_comes_2 : decode cX8_comes 2 = .ok (.iload_n 3, 1) := by decide +kernel
theorem dX8_comes_3 : decode cX8_comes 3 = .ok (.invokestatic 97, 3) := by decide +kernel
theorem dX8_comes_6 : decode cX8_comes 6 = .ok (.ifCond .ne 6, 3) := by decide +kernel
theorem dX8_comes_9 : decode cX8_comes 9 = .ok (.bipush (-2), 2) := by decide +kernel
theorem dX8_comes_11 : decode cX8_comes 11 = .ok (.ireturn, 1) := by decide +kernel
theorem dX8_comes_12 : decode cX8_comes 12 = .ok (.aload_n 0, 1) := by decide +kernel
theorem dX8_comes_13 : decode cX8_comes 13 = .ok (.iload_n 1, 1) := by decide +kernel
theorem dX8_comes_14 : decode cX8_comes 14 = .ok (.iload_n 2, 1) := by decide +kernel
theorem dX8_comes_15 : decode cX8_comes 15 = .ok (.iload_n 3, 1) := by decide +kernel
theorem dX8_comes_16 : decode cX8_comes 16 = .ok (.invokevirtual 101, 3) := by decide +kernel
theorem dX8_comes_19 : decode cX8_comes 19 = .ok (.istore 4, 2) := by decide +kernel
theorem dX8_comes_21 : decode cX8_comes 21 = .ok (.iload 4, 2) := by decide +kernel
theorem dX8_comes_23 : decode cX8_comes 23 = .ok (.bipush (-6), 2) := by decide +kernel
theorem dX8_comes_25 : decode cX8_comes 25 = .ok (.if_icmp .eq 49, 3) := by decide +kernel
theorem dX8_comes_28 : decode cX8_comes 28 = .ok (.aload_n 0, 1) := by decide +kernel
theorem dX8_comes_29 : decode cX8_comes 29 = .ok (.getfield 7, 3) := by decide +kernel
theorem dX8_comes_32 : decode cX8_comes 32 = .ok (.bipush 78, 2) := by decide +kernel
theorem dX8_comes_34 : decode cX8_comes 34 = .ok (.bipush 6, 2) := by decide +kernel
theorem dX8_comes_36 : decode cX8_comes 36 = .ok (.iload 4, 2) := by decide +kernel
theorem dX8_comes_38 : decode cX8_comes 38 = .ok (.imul, 1) := by decide +kernel
theorem dX8_comes_39 : decode cX8_comes 39 = .ok (.iadd, 1) := by decide +kernel
theorem dX8_comes_40 : decode cX8_comes 40 = .ok (.iconst 3, 1) := by decide +kernel
theorem dX8_comes_41 : decode cX8_comes 41 = .ok (.iadd, 1) := by decide +kernel
theorem dX8_comes_42 : decode cX8_comes 42 = .ok (.dup2, 1) := by decide +kernel
theorem dX8_comes_43 : decode cX8_comes 43 = .ok (.iaload, 1) := by decide +kernel
theorem dX8_comes_44 : decode cX8_comes 44 = .ok (.iload_n 3, 1) := by decide +kernel
theorem dX8_comes_45 : decode cX8_comes 45 = .ok (.iadd, 1) := by decide +kernel
theorem dX8_comes_46 : decode cX8_comes 46 = .ok (.iastore, 1) := by decide +kernel
theorem dX8_comes_47 : decode cX8_comes 47 = .ok (.aload_n 0, 1) := by decide +kernel
theorem dX8_comes_48 : decode cX8_comes 48 = .ok (.getfield 7, 3) := by decide +kernel
theorem dX8_comes_51 : decode cX8_comes 51 = .ok (.bipush 78, 2) := by decide +kernel
theorem dX8_comes_53 : decode cX8_comes 53 = .ok (.bipush 6, 2) := by decide +kernel
theorem dX8_comes_55 : decode cX8_comes 55 = .ok (.iload 4, 2) := by decide +kernel
theorem dX8_comes_57 : decode cX8_comes 57 = .ok (.imul, 1) := by decide +kernel
theorem dX8_comes_58 : decode cX8_comes 58 = .ok (.iadd, 1) := by decide +kernel
theorem dX8_comes_59 : decode cX8_comes 59 = .ok (.iconst 5, 1) := by decide +kernel
theorem dX8_comes_60 : decode cX8_comes 60 = .ok (.iadd, 1) := by decide +kernel
theorem dX8_comes_61 : decode cX8_comes 61 = .ok (.dup2, 1) := by decide +kernel
theorem dX8_comes_62 : decode cX8_comes 62 = .ok (.iaload, 1) := by decide +kernel
theorem dX8_comes_63 : decode cX8_comes 63 = .ok (.iconst 1, 1) := by decide +kernel
theorem dX8_comes_64 : decode cX8_comes 64 = .ok (.iadd, 1) := by decide +kernel
theorem dX8_comes_65 : decode cX8_comes 65 = .ok (.iastore, 1) := by decide +kernel
theorem dX8_comes_66 : decode cX8_comes 66 = .ok (.aload_n 0, 1) := by decide +kernel
theorem dX8_comes_67 : decode cX8_comes 67 = .ok (.iload 4, 2) := by decide +kernel
theorem dX8_comes_69 : decode cX8_comes 69 = .ok (.iconst 0, 1) := by decide +kernel
theorem dX8_comes_70 : decode cX8_comes 70 = .ok (.invokevirtual 35, 3) := by decide +kernel
theorem dX8_comes_73 : decode cX8_comes 73 = .ok (.ireturn, 1) := by decide +kernel
theorem dX8_comes_74 : decode cX8_comes 74 = .ok (.aload_n 0, 1) := by decide +kernel
theorem dX8_comes_75 : decode cX8_comes 75 = .ok (.getfield 7, 3) := by decide +kernel
theorem dX8_comes_78 : decode cX8_comes 78 = .ok (.bipush 7, 2) := by decide +kernel
theorem dX8_comes_80 : decode cX8_comes 80 = .ok (.iaload, 1) := by decide +kernel
theorem dX8_comes_81 : decode cX8_comes 81 = .ok (.bipush 30, 2) := by decide +kernel
theorem dX8_comes_83 : decode cX8_comes 83 = .ok (.if_icmp .ne 6, 3) := by decide +kernel
theorem dX8_comes_86 : decode cX8_comes 86 = .ok (.bipush (-4), 2) := by decide +kernel
theorem dX8_comes_88 : decode cX8_comes 88 = .ok (.ireturn, 1) := by decide +kernel
theorem dX8_comes_89 : decode cX8_comes 89 = .ok (.bipush 78, 2) := by decide +kernel
theorem dX8_comes_91 : decode cX8_comes 91 = .ok (.bipush 6, 2) := by decide +kernel
theorem dX8_comes_93 : decode cX8_comes 93 = .ok (.aload_n 0, 1) := by decide +kernel
theorem dX8_comes_94 : decode cX8_comes 94 = .ok (.getfield 7, 3) := by decide +kernel
theorem dX8_comes_97 : decode cX8_comes 97 = .ok (.bipush 7, 2) := by decide +kernel
theorem dX8_comes_99 : decode cX8_comes 99 = .ok (.iaload, 1) := by decide +kernel
theorem dX8_comes_100 : decode cX8_comes 100 = .ok (.imul, 1) := by decide +kernel
theorem dX8_comes_101 : decode cX8_comes 101 = .ok (.iadd, 1) := by decide +kernel
theorem dX8_comes_102 : decode cX8_comes 102 = .ok (.istore 5, 2) := by decide +kernel
theorem dX8_comes_104 : decode cX8_comes 104 = .ok (.aload_n 0, 1) := by decide +kernel
theorem dX8_comes_105 : decode cX8_comes 105 = .ok (.getfield 7, 3) := by decide +kernel
theorem dX8_comes_108 : decode cX8_comes 108 = .ok (.iload 5, 2) := by decide +kernel
theorem dX8_comes_110 : decode cX8_comes 110 = .ok (.iconst 0, 1) := by decide +kernel
theorem dX8_comes_111 : decode cX8_comes 111 = .ok (.iadd, 1) := by decide +kernel
theorem dX8_comes_112 : decode cX8_comes 112 = .ok (.aload_n 0, 1) := by decide +kernel
theorem dX8_comes_113 : decode cX8_comes 113 = .ok (.getfield 7, 3) := by decide +kernel
theorem dX8_comes_116 : decode cX8_comes 116 = .ok (.bipush 8, 2) := by decide +kernel
theorem dX8_comes_118 : decode cX8_comes 118 = .ok (.iaload, 1) := by decide +kernel
theorem dX8_comes_119 : decode cX8_comes 119 = .ok (.iastore, 1) := by decide +kernel
theorem dX8_comes_120 : decode cX8_comes 120 = .ok (.aload_n 0, 1) := by decide +kernel
theorem dX8_comes_121 : decode cX8_comes 121 = .ok (.getfield 7, 3) := by decide +kernel
theorem dX8_comes_124 : decode cX8_comes 124 = .ok (.iload 5, 2) := by decide +kernel
theorem dX8_comes_126 : decode cX8_comes 126 = .ok (.iconst 1, 1) := by decide +kernel
theorem dX8_comes_127 : decode cX8_comes 127 = .ok (.iadd, 1) := by decide +kernel
theorem dX8_comes_128 : decode cX8_comes 128 = .ok (.iload_n 1, 1) := by decide +kernel
theorem dX8_comes_129 : decode cX8_comes 129 = .ok (.iastore, 1) := by decide +kernel
theorem dX8_comes_130 : decode cX8_comes 130 = .ok (.aload_n 0, 1) := by decide +kernel
theorem dX8_comes_131 : decode cX8_comes 131 = .ok (.getfield 7, 3) := by decide +kernel
theorem dX8_comes_134 : decode cX8_comes 134 = .ok (.iload 5, 2) := by decide +kernel
theorem dX8_comes_136 : decode cX8_comes 136 = .ok (.iconst 2, 1) := by decide +kernel
theorem dX8_comes_137 : decode cX8_comes 137 = .ok (.iadd, 1) := by decide +kernel
theorem dX8_comes_138 : decode cX8_comes 138 = .ok (.iload_n 2, 1) := by decide +kernel
theorem dX8_comes_139 : decode cX8_comes 139 = .ok (.iastore, 1) := by decide +kernel
theorem dX8_comes_140 : decode cX8_comes 140 = .ok (.aload_n 0, 1) := by decide +kernel
theorem dX8_comes_141 : decode cX8_comes 141 = .ok (.getfield 7, 3) := by decide +kernel
theorem dX8_comes_144 : decode cX8_comes 144 = .ok (.iload 5, 2) := by decide +kernel
theorem dX8_comes_146 : decode cX8_comes 146 = .ok (.iconst 3, 1) := by decide +kernel
theorem dX8_comes_147 : decode cX8_comes 147 = .ok (.iadd, 1) := by decide +kernel
theorem dX8_comes_148 : decode cX8_comes 148 = .ok (.iload_n 3, 1) := by decide +kernel
theorem dX8_comes_149 : decode cX8_comes 149 = .ok (.iastore, 1) := by decide +kernel
theorem dX8_comes_150 : decode cX8_comes 150 = .ok (.aload_n 0, 1) := by decide +kernel
theorem dX8_comes_151 : decode cX8_comes 151 = .ok (.getfield 7, 3) := by decide +kernel
theorem dX8_comes_154 : decode cX8_comes 154 = .ok (.iload 5, 2) := by decide +kernel
theorem dX8_comes_156 : decode cX8_comes 156 = .ok (.iconst 4, 1) := by decide +kernel
theorem dX8_comes_157 : decode cX8_comes 157 = .ok (.iadd, 1) := by decide +kernel
theorem dX8_comes_158 : decode cX8_comes 158 = .ok (.aload_n 0, 1) := by decide +kernel
theorem dX8_comes_159 : decode cX8_comes 159 = .ok (.getfield 7, 3) := by decide +kernel
theorem dX8_comes_162 : decode cX8_comes 162 = .ok (.bipush 6, 2) := by decide +kernel
theorem dX8_comes_164 : decode cX8_comes 164 = .ok (.iaload, 1) := by decide +kernel
theorem dX8_comes_165 : decode cX8_comes 165 = .ok (.iastore, 1) := by decide +kernel
theorem dX8_comes_166 : decode cX8_comes 166 = .ok (.aload_n 0, 1) := by decide +kernel
theorem dX8_comes_167 : decode cX8_comes 167 = .ok (.getfield 7, 3) := by decide +kernel
theorem dX8_comes_170 : decode cX8_comes 170 = .ok (.iload 5, 2) := by decide +kernel
theorem dX8_comes_172 : decode cX8_comes 172 = .ok (.iconst 5, 1) := by decide +kernel
theorem dX8_comes_173 : decode cX8_comes 173 = .ok (.iadd, 1) := by decide +kernel
theorem dX8_comes_174 : decode cX8_comes 174 = .ok (.iconst 0, 1) := by decide +kernel
theorem dX8_comes_175 : decode cX8_comes 175 = .ok (.iastore, 1) := by decide +kernel
theorem dX8_comes_176 : decode cX8_comes 176 = .ok (.aload_n 0, 1) := by decide +kernel
theorem dX8_comes_177 : decode cX8_comes 177 = .ok (.getfield 7, 3) := by decide +kernel
theorem dX8_comes_180 : decode cX8_comes 180 = .ok (.bipush 7, 2) := by decide +kernel
theorem dX8_comes_182 : decode cX8_comes 182 = .ok (.dup2, 1) := by decide +kernel
theorem dX8_comes_183 : decode cX8_comes 183 = .ok (.iaload, 1) := by decide +kernel
theorem dX8_comes_184 : decode cX8_comes 184 = .ok (.iconst 1, 1) := by decide +kernel
theorem dX8_comes_185 : decode cX8_comes 185 = .ok (.iadd, 1) := by decide +kernel
theorem dX8_comes_186 : decode cX8_comes 186 = .ok (.iastore, 1) := by decide +kernel
theorem dX8_comes_187 : decode cX8_comes 187 = .ok (.aload_n 0, 1) := by decide +kernel
theorem dX8_comes_188 : decode cX8_comes 188 = .ok (.getfield 7, 3) := by decide +kernel
theorem dX8_comes_191 : decode cX8_comes 191 = .ok (.bipush 8, 2) := by decide +kernel
theorem dX8_comes_193 : decode cX8_comes 193 = .ok (.dup2, 1) := by decide +kernel
theorem dX8_comes_194 : decode cX8_comes 194 = .ok (.iaload, 1) := by decide +kernel
theorem dX8_comes_195 : decode cX8_comes 195 = .ok (.iconst 1, 1) := by decide +kernel
theorem dX8_comes_196 : decode cX8_comes 196 = .ok (.iadd, 1) := by decide +kernel
theorem dX8_comes_197 : decode cX8_comes 197 = .ok (.iastore, 1) := by decide +kernel
theorem dX8_comes_198 : decode cX8_comes 198 = .ok (.aload_n 0, 1) := by decide +kernel
theorem dX8_comes_199 : decode cX8_comes 199 = .ok (.getfield 7, 3) := by decide +kernel
theorem dX8_comes_202 : decode cX8_comes 202 = .ok (.bipush 8, 2) := by decide +kernel
theorem dX8_comes_204 : decode cX8_comes 204 = .ok (.iaload, 1) := by decide +kernel
theorem dX8_comes_205 : decode cX8_comes 205 = .ok (.iconst 1, 1) := by decide +kernel
theorem dX8_comes_206 : decode cX8_comes 206 = .ok (.isub, 1) := by decide +kernel
theorem dX8_comes_207 : decode cX8_comes 207 = .ok (.ireturn, 1) := by decide +kernel
theorem dX8_serves_0 : decode cX8_serves 0 = .ok (.iload_n 1, 1) := by decide +kernel
theorem dX8_serves_1 : decode cX8_serves 1 = .ok (.i2l, 1) := by decide +kernel
theorem dX8_serves_2 : decode cX8_serves 2 = .ok (.iconst 1, 1) := by decide +kernel
theorem dX8_serves_3 : decode cX8_serves 3 = .ok (.bipush 30, 2) := by decide +kernel
theorem dX8_serves_5 : decode cX8_serves 5 = .ok (.invokestatic 43, 3) := by decide +kernel
theorem dX8_serves_8 : decode cX8_serves 8 = .ok (.ifCond .ne 6, 3) := by decide +kernel
theorem dX8_serves_11 : decode cX8_serves 11 = .ok (.bipush (-2), 2) := by decide +kernel
theorem dX8_serves_13 : decode cX8_serves 13 = .ok (.ireturn, 1) := by decide +kernel
theorem dX8_serves_14 : decode cX8_serves 14 = .ok (.aload_n 0, 1) := by decide +kernel
theorem dX8_serves_15 : decode cX8_serves 15 = .ok (.getfield 7, 3) := by decide +kernel
theorem dX8_serves_18 : decode cX8_serves 18 = .ok (.bipush 7, 2) := by decide +kernel
theorem dX8_serves_20 : decode cX8_serves 20 = .ok (.iaload, 1) := by decide +kernel
theorem dX8_serves_21 : decode cX8_serves 21 = .ok (.ifCond .ne 6, 3) := by decide +kernel
theorem dX8_serves_24 : decode cX8_serves 24 = .ok (.bipush (-5), 2) := by decide +kernel
theorem dX8_serves_26 : decode cX8_serves 26 = .ok (.ireturn, 1) := by decide +kernel
theorem dX8_serves_27 : decode cX8_serves 27 = .ok (.aload_n 0, 1) := by decide +kernel
theorem dX8_serves_28 : decode cX8_serves 28 = .ok (.invokevirtual 105, 3) := by decide +kernel
theorem dX8_serves_31 : decode cX8_serves 31 = .ok (.iconst 0, 1) := by decide +kernel
theorem dX8_serves_32 : decode cX8_serves 32 = .ok (.istore_n 2, 1) := by decide +kernel
theorem dX8_serves_33 : decode cX8_serves 33 = .ok (.iload_n 2, 1) := by decide +kernel
theorem dX8_serves_34 : decode cX8_serves 34 = .ok (.iload_n 1, 1) := by decide +kernel
theorem dX8_serves_35 : decode cX8_serves 35 = .ok (.if_icmp .ge 23, 3) := by decide +kernel
theorem dX8_serves_38 : decode cX8_serves 38 = .ok (.aload_n 0, 1) := by decide +kernel
theorem dX8_serves_39 : decode cX8_serves 39 = .ok (.getfield 7, 3) := by decide +kernel
theorem dX8_serves_42 : decode cX8_serves 42 = .ok (.bipush 7, 2) := by decide +kernel
theorem dX8_serves_44 : decode cX8_serves 44 = .ok (.iaload, 1) := by decide +kernel
theorem dX8_serves_45 : decode cX8_serves 45 = .ok (.ifCond .le 13, 3) := by decide +kernel
theorem dX8_serves_48 : decode cX8_serves 48 = .ok (.aload_n 0, 1) := by decide +kernel
theorem dX8_serves_49 : decode cX8_serves 49 = .ok (.invokevirtual 108, 3) := by decide +kernel
theorem dX8_serves_52 : decode cX8_serves 52 = .ok (.iinc 2 1, 3) := by decide +kernel
theorem dX8_serves_55 : decode cX8_serves 55 = .ok (.goto (-22), 3) := by decide +kernel
theorem dX8_serves_58 : decode cX8_serves 58 = .ok (.aload_n 0, 1) := by decide +kernel
theorem dX8_serves_59 : decode cX8_serves 59 = .ok (.getfield 7, 3) := by decide +kernel
theorem dX8_serves_62 : decode cX8_serves 62 = .ok (.bipush 6, 2) := by decide +kernel
theorem dX8_serves_64 : decode cX8_serves 64 = .ok (.iaload, 1) := by decide +kernel
theorem dX8_serves_65 : decode cX8_serves 65 = .ok (.ldc 111, 2) := by decide +kernel
theorem dX8_serves_67 : decode cX8_serves 67 = .ok (.if_icmp .le 10, 3) := by decide +kernel
theorem dX8_serves_70 : decode cX8_serves 70 = .ok (.aload_n 0, 1) := by decide +kernel
theorem dX8_serves_71 : decode cX8_serves 71 = .ok (.invokevirtual 112, 3) := by decide +kernel
theorem dX8_serves_74 : decode cX8_serves 74 = .ok (.bipush (-5), 2) := by decide +kernel
theorem dX8_serves_76 : decode cX8_serves 76 = .ok (.ireturn, 1) := by decide +kernel
theorem dX8_serves_77 : decode cX8_serves 77 = .ok (.iload_n 2, 1) := by decide +kernel
theorem dX8_serves_78 : decode cX8_serves 78 = .ok (.ireturn, 1) := by decide +kernel
theorem dX8_waits_0 : decode cX8_waits 0 = .ok (.iload_n 1, 1) := by decide +kernel
theorem dX8_waits_1 : decode cX8_waits 1 = .ok (.i2l, 1) := by decide +kernel
theorem dX8_waits_2 : decode cX8_waits 2 = .ok (.iconst 1, 1) := by decide +kernel
theorem dX8_waits_3 : decode cX8_waits 3 = .ok (.sipush 999, 3) := by decide +kernel
theorem dX8_waits_6 : decode cX8_waits 6 = .ok (.invokestatic 43, 3) := by decide +kernel
theorem dX8_waits_9 : decode cX8_waits 9 = .ok (.ifCond .ne 6, 3) := by decide +kernel
theorem dX8_waits_12 : decode cX8_waits 12 = .ok (.bipush (-2), 2) := by decide +kernel
theorem dX8_waits_14 : decode cX8_waits 14 = .ok (.ireturn, 1) := by decide +kernel
theorem dX8_waits_15 : decode cX8_waits 15 = .ok (.aload_n 0, 1) := by decide +kernel
theorem dX8_waits_16 : decode cX8_waits 16 = .ok (.getfield 7, 3) := by decide +kernel
theorem dX8_waits_19 : decode cX8_waits 19 = .ok (.bipush 6, 2) := by decide +kernel
theorem dX8_waits_21 : decode cX8_waits 21 = .ok (.iaload, 1) := by decide +kernel
theorem dX8_waits_22 : decode cX8_waits 22 = .ok (.iload_n 1, 1) := by decide +kernel
theorem dX8_waits_23 : decode cX8_waits 23 = .ok (.iadd, 1) := by decide +kernel
theorem dX8_waits_24 : decode cX8_waits 24 = .ok (.ldc 111, 2) := by decide +kernel
theorem dX8_waits_26 : decode cX8_waits 26 = .ok (.if_icmp .le 6, 3) := by decide +kernel
theorem dX8_waits_29 : decode cX8_waits 29 = .ok (.bipush (-5), 2) := by decide +kernel
theorem dX8_waits_31 : decode cX8_waits 31 = .ok (.ireturn, 1) := by decide +kernel
theorem dX8_waits_32 : decode cX8_waits 32 = .ok (.aload_n 0, 1) := by decide +kernel
theorem dX8_waits_33 : decode cX8_waits 33 = .ok (.getfield 7, 3) := by decide +kernel
theorem dX8_waits_36 : decode cX8_waits 36 = .ok (.bipush 6, 2) := by decide +kernel
theorem dX8_waits_38 : decode cX8_waits 38 = .ok (.dup2, 1) := by decide +kernel
theorem dX8_waits_39 : decode cX8_waits 39 = .ok (.iaload, 1) := by decide +kernel
theorem dX8_waits_40 : decode cX8_waits 40 = .ok (.iload_n 1, 1) := by decide +kernel
theorem dX8_waits_41 : decode cX8_waits 41 = .ok (.iadd, 1) := by decide +kernel
theorem dX8_waits_42 : decode cX8_waits 42 = .ok (.iastore, 1) := by decide +kernel
theorem dX8_waits_43 : decode cX8_waits 43 = .ok (.aload_n 0, 1) := by decide +kernel
theorem dX8_waits_44 : decode cX8_waits 44 = .ok (.getfield 7, 3) := by decide +kernel
theorem dX8_waits_47 : decode cX8_waits 47 = .ok (.bipush 6, 2) := by decide +kernel
theorem dX8_waits_49 : decode cX8_waits 49 = .ok (.iaload, 1) := by decide +kernel
theorem dX8_waits_50 : decode cX8_waits 50 = .ok (.ireturn, 1) := by decide +kernel
theorem dX8_leastOf_0 : decode cX8_leastOf 0 = .ok (.iload_n 0, 1) := by decide +kernel
theorem dX8_leastOf_1 : decode cX8_leastOf 1 = .ok (.iconst 4, 1) := by decide +kernel
theorem dX8_leastOf_2 : decode cX8_leastOf 2 = .ok (.if_icmp .ne 7, 3) := by decide +kernel
theorem dX8_leastOf_5 : decode cX8_leastOf 5 = .ok (.iconst 0, 1) := by decide +kernel
theorem dX8_leastOf_6 : decode cX8_leastOf 6 = .ok (.goto 4, 3) := by decide +kernel
theorem dX8_leastOf_9 : decode cX8_leastOf 9 = .ok (.iconst 1, 1) := by decide +kernel
theorem dX8_leastOf_10 : decode cX8_leastOf 10 = .ok (.ireturn, 1) := by decide +kernel
theorem dX8_mostOf_0 : decode cX8_mostOf 0 = .ok (.iload_n 0, 1) := by decide +kernel
theorem dX8_mostOf_1 : decode cX8_mostOf 1 = .ok (.iconst 2, 1) := by decide +kernel
theorem dX8_mostOf_2 : decode cX8_mostOf 2 = .ok (.if_icmp .ge 9, 3) := by decide +kernel
theorem dX8_mostOf_5 : decode cX8_mostOf 5 = .ok (.sipush 999, 3) := by decide +kernel
theorem dX8_mostOf_8 : decode cX8_mostOf 8 = .ok (.goto 25, 3) := by decide +kernel
theorem dX8_mostOf_11 : decode cX8_mostOf 11 = .ok (.iload_n 0, 1) := by decide +kernel
theorem dX8_mostOf_12 : decode cX8_mostOf 12 = .ok (.iconst 2, 1) := by decide +kernel
theorem dX8_mostOf_13 : decode cX8_mostOf 13 = .ok (.if_icmp .ne 8, 3) := by decide +kernel
theorem dX8_mostOf_16 : decode cX8_mostOf 16 = .ok (.bipush 16, 2) := by decide +kernel
theorem dX8_mostOf_18 : decode cX8_mostOf 18 = .ok (.goto 15, 3) := by decide +kernel
theorem dX8_mostOf_21 : decode cX8_mostOf 21 = .ok (.iload_n 0, 1) := by decide +kernel
theorem dX8_mostOf_22 : decode cX8_mostOf 22 = .ok (.iconst 5, 1) := by decide +kernel
theorem dX8_mostOf_23 : decode cX8_mostOf 23 = .ok (.if_icmp .ne 8, 3) := by decide +kernel
theorem dX8_mostOf_26 : decode cX8_mostOf 26 = .ok (.bipush 20, 2) := by decide +kernel
theorem dX8_mostOf_28 : decode cX8_mostOf 28 = .ok (.goto 5, 3) := by decide +kernel
theorem dX8_mostOf_31 : decode cX8_mostOf 31 = .ok (.bipush 9, 2) := by decide +kernel
theorem dX8_mostOf_33 : decode cX8_mostOf 33 = .ok (.ireturn, 1) := by decide +kernel
theorem dX8_set_0 : decode cX8_set 0 = .ok (.iload_n 1, 1) := by decide +kernel
theorem dX8_set_1 : decode cX8_set 1 = .ok (.i2l, 1) := by decide +kernel
theorem dX8_set_2 : decode cX8_set 2 = .ok (.iconst 0, 1) := by decide +kernel
theorem dX8_set_3 : decode cX8_set 3 = .ok (.iconst 5, 1) := by decide +kernel
theorem dX8_set_4 : decode cX8_set 4 = .ok (.invokestatic 43, 3) := by decide +kernel
theorem dX8_set_7 : decode cX8_set 7 = .ok (.ifCond .eq 19, 3) := by decide +kernel
theorem dX8_set_10 : decode cX8_set 10 = .ok (.iload_n 2, 1) := by decide +kernel
theorem dX8_set_11 : decode cX8_set 11 = .ok (.i2l, 1) := by decide +kernel
theorem dX8_set_12 : decode cX8_set 12 = .ok (.iload_n 1, 1) := by decide +kernel
theorem dX8_set_13 : decode cX8_set 13 = .ok (.invokestatic 115, 3) := by decide +kernel
theorem dX8_set_16 : decode cX8_set 16 = .ok (.iload_n 1, 1) := by decide +kernel
theorem dX8_set_17 : decode cX8_set 17 = .ok (.invokestatic 118, 3) := by decide +kernel
theorem dX8_set_20 : decode cX8_set 20 = .ok (.invokestatic 43, 3) := by decide +kernel
theorem dX8_set_23 : decode cX8_set 23 = .ok (.ifCond .ne 6, 3) := by decide +kernel
theorem dX8_set_26 : decode cX8_set 26 = .ok (.bipush (-2), 2) := by decide +kernel
theorem dX8_set_28 : decode cX8_set 28 = .ok (.ireturn, 1) := by decide +kernel
theorem dX8_set_29 : decode cX8_set 29 = .ok (.aload_n 0, 1) := by decide +kernel
theorem dX8_set_30 : decode cX8_set 30 = .ok (.invokevirtual 47, 3) := by decide +kernel
theorem dX8_set_33 : decode cX8_set 33 = .ok (.aload_n 0, 1) := by decide +kernel
theorem dX8_set_34 : decode cX8_set 34 = .ok (.getfield 7, 3) := by decide +kernel
theorem dX8_set_37 : decode cX8_set 37 = .ok (.iload_n 1, 1) := by decide +kernel
theorem dX8_set_38 : decode cX8_set 38 = .ok (.iaload, 1) := by decide +kernel
theorem dX8_set_39 : decode cX8_set 39 = .ok (.istore_n 3, 1) := by decide +kernel
theorem dX8_set_40 : decode cX8_set 40 = .ok (.aload_n 0, 1) := by decide +kernel
theorem dX8_set_41 : decode cX8_set 41 = .ok (.getfield 7, 3) := by decide +kernel
theorem dX8_set_44 : decode cX8_set 44 = .ok (.iload_n 1, 1) := by decide +kernel
theorem dX8_set_45 : decode cX8_set 45 = .ok (.iload_n 2, 1) := by decide +kernel
theorem dX8_set_46 : decode cX8_set 46 = .ok (.iastore, 1) := by decide +kernel
theorem dX8_set_47 : decode cX8_set 47 = .ok (.aload_n 0, 1) := by decide +kernel
theorem dX8_set_48 : decode cX8_set 48 = .ok (.iload_n 3, 1) := by decide +kernel
theorem dX8_set_49 : decode cX8_set 49 = .ok (.invokevirtual 50, 3) := by decide +kernel
theorem dX8_set_52 : decode cX8_set 52 = .ok (.ireturn, 1) := by decide +kernel
theorem dX8_slip_0 : decode cX8_slip 0 = .ok (.aload_n 0, 1) := by decide +kernel
theorem dX8_slip_1 : decode cX8_slip 1 = .ok (.invokevirtual 47, 3) := by decide +kernel
theorem dX8_slip_4 : decode cX8_slip 4 = .ok (.aload_n 0, 1) := by decide +kernel
theorem dX8_slip_5 : decode cX8_slip 5 = .ok (.aload_n 0, 1) := by decide +kernel
theorem dX8_slip_6 : decode cX8_slip 6 = .ok (.iload_n 1, 1) := by decide +kernel
theorem dX8_slip_7 : decode cX8_slip 7 = .ok (.iload_n 2, 1) := by decide +kernel
theorem dX8_slip_8 : decode cX8_slip 8 = .ok (.iload_n 3, 1) := by decide +kernel
theorem dX8_slip_9 : decode cX8_slip 9 = .ok (.invokevirtual 121, 3) := by decide +kernel
theorem dX8_slip_12 : decode cX8_slip 12 = .ok (.invokevirtual 50, 3) := by decide +kernel
theorem dX8_slip_15 : decode cX8_slip 15 = .ok (.ireturn, 1) := by decide +kernel
theorem dX8_tear_0 : decode cX8_tear 0 = .ok (.aload_n 0, 1) := by decide +kernel
theorem dX8_tear_1 : decode cX8_tear 1 = .ok (.iload_n 1, 1) := by decide +kernel
theorem dX8_tear_2 : decode cX8_tear 2 = .ok (.invokevirtual 124, 3) := by decide +kernel
theorem dX8_tear_5 : decode cX8_tear 5 = .ok (.istore_n 2, 1) := by decide +kernel
theorem dX8_tear_6 : decode cX8_tear 6 = .ok (.iload_n 2, 1) := by decide +kernel
theorem dX8_tear_7 : decode cX8_tear 7 = .ok (.bipush (-6), 2) := by decide +kernel
theorem dX8_tear_9 : decode cX8_tear 9 = .ok (.if_icmp .ne 5, 3) := by decide +kernel
theorem dX8_tear_12 : decode cX8_tear 12 = .ok (.iconst (-1), 1) := by decide +kernel
theorem dX8_tear_13 : decode cX8_tear 13 = .ok (.ireturn, 1) := by decide +kernel
theorem dX8_tear_14 : decode cX8_tear 14 = .ok (.aload_n 0, 1) := by decide +kernel
theorem dX8_tear_15 : decode cX8_tear 15 = .ok (.invokevirtual 47, 3) := by decide +kernel
theorem dX8_tear_18 : decode cX8_tear 18 = .ok (.aload_n 0, 1) := by decide +kernel
theorem dX8_tear_19 : decode cX8_tear 19 = .ok (.getfield 7, 3) := by decide +kernel
theorem dX8_tear_22 : decode cX8_tear 22 = .ok (.bipush 6, 2) := by decide +kernel
theorem dX8_tear_24 : decode cX8_tear 24 = .ok (.iaload, 1) := by decide +kernel
theorem dX8_tear_25 : decode cX8_tear 25 = .ok (.aload_n 0, 1) := by decide +kernel
theorem dX8_tear_26 : decode cX8_tear 26 = .ok (.iload_n 2, 1) := by decide +kernel
theorem dX8_tear_27 : decode cX8_tear 27 = .ok (.iconst 4, 1) := by decide +kernel
theorem dX8_tear_28 : decode cX8_tear 28 = .ok (.invokevirtual 35, 3) := by decide +kernel
theorem dX8_tear_31 : decode cX8_tear 31 = .ok (.isub, 1) := by decide +kernel
theorem dX8_tear_32 : decode cX8_tear 32 = .ok (.istore_n 3, 1) := by decide +kernel
theorem dX8_tear_33 : decode cX8_tear 33 = .ok (.aload_n 0, 1) := by decide +kernel
theorem dX8_tear_34 : decode cX8_tear 34 = .ok (.iload_n 2, 1) := by decide +kernel
theorem dX8_tear_35 : decode cX8_tear 35 = .ok (.invokevirtual 93, 3) := by decide +kernel
theorem dX8_tear_38 : decode cX8_tear 38 = .ok (.aload_n 0, 1) := by decide +kernel
theorem dX8_tear_39 : decode cX8_tear 39 = .ok (.iload_n 3, 1) := by decide +kernel
theorem dX8_tear_40 : decode cX8_tear 40 = .ok (.invokevirtual 50, 3) := by decide +kernel
theorem dX8_tear_43 : decode cX8_tear 43 = .ok (.ireturn, 1) := by decide +kernel
theorem dX8_serve_0 : decode cX8_serve 0 = .ok (.aload_n 0, 1) := by decide +kernel
theorem dX8_serve_1 : decode cX8_serve 1 = .ok (.invokevirtual 47, 3) := by decide +kernel
theorem dX8_serve_4 : decode cX8_serve 4 = .ok (.aload_n 0, 1) := by decide +kernel
theorem dX8_serve_5 : decode cX8_serve 5 = .ok (.aload_n 0, 1) := by decide +kernel
theorem dX8_serve_6 : decode cX8_serve 6 = .ok (.iload_n 1, 1) := by decide +kernel
theorem dX8_serve_7 : decode cX8_serve 7 = .ok (.invokevirtual 127, 3) := by decide +kernel
theorem dX8_serve_10 : decode cX8_serve 10 = .ok (.invokevirtual 50, 3) := by decide +kernel
theorem dX8_serve_13 : decode cX8_serve 13 = .ok (.ireturn, 1) := by decide +kernel
theorem dX8_pass_0 : decode cX8_pass 0 = .ok (.aload_n 0, 1) := by decide +kernel
theorem dX8_pass_1 : decode cX8_pass 1 = .ok (.invokevirtual 47, 3) := by decide +kernel
theorem dX8_pass_4 : decode cX8_pass 4 = .ok (.aload_n 0, 1) := by decide +kernel
theorem dX8_pass_5 : decode cX8_pass 5 = .ok (.aload_n 0, 1) := by decide +kernel
theorem dX8_pass_6 : decode cX8_pass 6 = .ok (.iload_n 1, 1) := by decide +kernel
theorem dX8_pass_7 : decode cX8_pass 7 = .ok (.invokevirtual 130, 3) := by decide +kernel
theorem dX8_pass_10 : decode cX8_pass 10 = .ok (.invokevirtual 50, 3) := by decide +kernel
theorem dX8_pass_13 : decode cX8_pass 13 = .ok (.ireturn, 1) := by decide +kernel
theorem dX8_of_0 : decode cX8_of 0 = .ok (.aload_n 0, 1) := by decide +kernel
theorem dX8_of_1 : decode cX8_of 1 = .ok (.iload_n 1, 1) := by decide +kernel
theorem dX8_of_2 : decode cX8_of 2 = .ok (.invokevirtual 124, 3) := by decide +kernel
theorem dX8_of_5 : decode cX8_of 5 = .ok (.istore_n 3, 1) := by decide +kernel
theorem dX8_of_6 : decode cX8_of 6 = .ok (.iload_n 3, 1) := by decide +kernel
theorem dX8_of_7 : decode cX8_of 7 = .ok (.bipush (-6), 2) := by decide +kernel
theorem dX8_of_9 : decode cX8_of 9 = .ok (.if_icmp .ne 5, 3) := by decide +kernel
theorem dX8_of_12 : decode cX8_of 12 = .ok (.iconst (-1), 1) := by decide +kernel
theorem dX8_of_13 : decode cX8_of 13 = .ok (.ireturn, 1) := by decide +kernel
theorem dX8_of_14 : decode cX8_of 14 = .ok (.iload_n 2, 1) := by decide +kernel
theorem dX8_of_15 : decode cX8_of 15 = .ok (.tableswitch 93 0 5 #[37, 44, 51, 57, 72, 86], 37) := by decide +kernel
theorem dX8_of_52 : decode cX8_of 52 = .ok (.aload_n 0, 1) := by decide +kernel
theorem dX8_of_53 : decode cX8_of 53 = .ok (.iload_n 3, 1) := by decide +kernel
theorem dX8_of_54 : decode cX8_of 54 = .ok (.iconst 1, 1) := by decide +kernel
theorem dX8_of_55 : decode cX8_of 55 = .ok (.invokevirtual 35, 3) := by decide +kernel
theorem dX8_of_58 : decode cX8_of 58 = .ok (.ireturn, 1) := by decide +kernel
theorem dX8_of_59 : decode cX8_of 59 = .ok (.aload_n 0, 1) := by decide +kernel
theorem dX8_of_60 : decode cX8_of 60 = .ok (.iload_n 3, 1) := by decide +kernel
theorem dX8_of_61 : decode cX8_of 61 = .ok (.iconst 2, 1) := by decide +kernel
theorem dX8_of_62 : decode cX8_of 62 = .ok (.invokevirtual 35, 3) := by decide +kernel
theorem dX8_of_65 : decode cX8_of 65 = .ok (.ireturn, 1) := by decide +kernel
theorem dX8_of_66 : decode cX8_of 66 = .ok (.aload_n 0, 1) := by decide +kernel
theorem dX8_of_67 : decode cX8_of 67 = .ok (.iload_n 3, 1) := by decide +kernel
theorem dX8_of_68 : decode cX8_of 68 = .ok (.invokevirtual 86, 3) := by decide +kernel
theorem dX8_of_71 : decode cX8_of 71 = .ok (.ireturn, 1) := by decide +kernel
theorem dX8_of_72 : decode cX8_of 72 = .ok (.aload_n 0, 1) := by decide +kernel
theorem dX8_of_73 : decode cX8_of 73 = .ok (.getfield 7, 3) := by decide +kernel
theorem dX8_of_76 : decode cX8_of 76 = .ok (.bipush 6, 2) := by decide +kernel
theorem dX8_of_78 : decode cX8_of 78 = .ok (.iaload, 1) := by decide +kernel
theorem dX8_of_79 : decode cX8_of 79 = .ok (.aload_n 0, 1) := by decide +kernel
theorem dX8_of_80 : decode cX8_of 80 = .ok (.iload_n 3, 1) := by decide +kernel
theorem dX8_of_81 : decode cX8_of 81 = .ok (.iconst 4, 1) := by decide +kernel
theorem dX8_of_82 : decode cX8_of 82 = .ok (.invokevirtual 35, 3) := by decide +kernel
theorem dX8_of_85 : decode cX8_of 85 = .ok (.isub, 1) := by decide +kernel
theorem dX8_of_86 : decode cX8_of 86 = .ok (.ireturn, 1) := by decide +kernel
theorem dX8_of_87 : decode cX8_of 87 = .ok (.aload_n 0, 1) := by decide +kernel
theorem dX8_of_88 : decode cX8_of 88 = .ok (.iload_n 3, 1) := by decide +kernel
theorem dX8_of_89 : decode cX8_of 89 = .ok (.invokevirtual 73, 3) := by decide +kernel
theorem dX8_of_92 : decode cX8_of 92 = .ok (.ifCond .eq 7, 3) := by decide +kernel
theorem dX8_of_95 : decode cX8_of 95 = .ok (.iconst 1, 1) := by decide +kernel
theorem dX8_of_96 : decode cX8_of 96 = .ok (.goto 4, 3) := by decide +kernel
theorem dX8_of_99 : decode cX8_of 99 = .ok (.iconst 0, 1) := by decide +kernel
theorem dX8_of_100 : decode cX8_of 100 = .ok (.ireturn, 1) := by decide +kernel
theorem dX8_of_101 : decode cX8_of 101 = .ok (.aload_n 0, 1) := by decide +kernel
theorem dX8_of_102 : decode cX8_of 102 = .ok (.iload_n 3, 1) := by decide +kernel
theorem dX8_of_103 : decode cX8_of 103 = .ok (.iconst 5, 1) := by decide +kernel
theorem dX8_of_104 : decode cX8_of 104 = .ok (.invokevirtual 35, 3) := by decide +kernel
theorem dX8_of_107 : decode cX8_of 107 = .ok (.ireturn, 1) := by decide +kernel
theorem dX8_of_108 : decode cX8_of 108 = .ok (.bipush (-2), 2) := by decide +kernel
theorem dX8_of_110 : decode cX8_of 110 = .ok (.ireturn, 1) := by decide +kernel
theorem dX8_rank_0 : decode cX8_rank 0 = .ok (.iconst 0, 1) := by decide +kernel
theorem dX8_rank_1 : decode cX8_rank 1 = .ok (.istore_n 2, 1) := by decide +kernel
theorem dX8_rank_2 : decode cX8_rank 2 = .ok (.iconst 0, 1) := by decide +kernel
theorem dX8_rank_3 : decode cX8_rank 3 = .ok (.istore_n 3, 1) := by decide +kernel
theorem dX8_rank_4 : decode cX8_rank 4 = .ok (.iload_n 3, 1) := by decide +kernel
theorem dX8_rank_5 : decode cX8_rank 5 = .ok (.aload_n 0, 1) := by decide +kernel
theorem dX8_rank_6 : decode cX8_rank 6 = .ok (.getfield 7, 3) := by decide +kernel
theorem dX8_rank_9 : decode cX8_rank 9 = .ok (.bipush 7, 2) := by decide +kernel
theorem dX8_rank_11 : decode cX8_rank 11 = .ok (.iaload, 1) := by decide +kernel
theorem dX8_rank_12 : decode cX8_rank 12 = .ok (.if_icmp .ge 79, 3) := by decide +kernel
theorem dX8_rank_15 : decode cX8_rank 15 = .ok (.aload_n 0, 1) := by decide +kernel
theorem dX8_rank_16 : decode cX8_rank 16 = .ok (.iload_n 3, 1) := by decide +kernel
theorem dX8_rank_17 : decode cX8_rank 17 = .ok (.iconst 2, 1) := by decide +kernel
theorem dX8_rank_18 : decode cX8_rank 18 = .ok (.invokevirtual 35, 3) := by decide +kernel
theorem dX8_rank_21 : decode cX8_rank 21 = .ok (.aload_n 0, 1) := by decide +kernel
theorem dX8_rank_22 : decode cX8_rank 22 = .ok (.iload_n 1, 1) := by decide +kernel
theorem dX8_rank_23 : decode cX8_rank 23 = .ok (.iconst 2, 1) := by decide +kernel
theorem dX8_rank_24 : decode cX8_rank 24 = .ok (.invokevirtual 35, 3) := by decide +kernel
theorem dX8_rank_27 : decode cX8_rank 27 = .ok (.if_icmp .lt 23, 3) := by decide +kernel
theorem dX8_rank_30 : decode cX8_rank 30 = .ok (.aload_n 0, 1) := by decide +kernel
theorem dX8_rank_31 : decode cX8_rank 31 = .ok (.iload_n 3, 1) := by decide +kernel
theorem dX8_rank_32 : decode cX8_rank 32 = .ok (.iconst 2, 1) := by decide +kernel
theorem dX8_rank_33 : decode cX8_rank 33 = .ok (.invokevirtual 35, 3) := by decide +kernel
theorem dX8_rank_36 : decode cX8_rank 36 = .ok (.aload_n 0, 1) := by decide +kernel
theorem dX8_rank_37 : decode cX8_rank 37 = .ok (.iload_n 1, 1) := by decide +kernel
theorem dX8_rank_38 : decode cX8_rank 38 = .ok (.iconst 2, 1) := by decide +kernel
theorem dX8_rank_39 : decode cX8_rank 39 = .ok (.invokevirtual 35, 3) := by decide +kernel
theorem dX8_rank_42 : decode cX8_rank 42 = .ok (.if_icmp .ne 12, 3) := by decide +kernel
theorem dX8_rank_45 : decode cX8_rank 45 = .ok (.iload_n 3, 1) := by decide +kernel
theorem dX8_rank_46 : decode cX8_rank 46 = .ok (.iload_n 1, 1) := by decide +kernel
theorem dX8_rank_47 : decode cX8_rank 47 = .ok (.if_icmp .ge 7, 3) := by decide +kernel
theorem dX8_rank_50 : decode cX8_rank 50 = .ok (.iconst 1, 1) := by decide +kernel
theorem dX8_rank_51 : decode cX8_rank 51 = .ok (.goto 4, 3) := by decide +kernel
theorem dX8_rank_54 : decode cX8_rank 54 = .ok (.iconst 0, 1) := by decide +kernel
theorem dX8_rank_55 : decode cX8_rank 55 = .ok (.istore 4, 2) := by decide +kernel
theorem dX8_rank_57 : decode cX8_rank 57 = .ok (.iload_n 2, 1) := by decide +kernel
theorem dX8_rank_58 : decode cX8_rank 58 = .ok (.aload_n 0, 1) := by decide +kernel
theorem dX8_rank_59 : decode cX8_rank 59 = .ok (.iload_n 3, 1) := by decide +kernel
theorem dX8_rank_60 : decode cX8_rank 60 = .ok (.iconst 1, 1) := by decide +kernel
theorem dX8_rank_61 : decode cX8_rank 61 = .ok (.invokevirtual 35, 3) := by decide +kernel
theorem dX8_rank_64 : decode cX8_rank 64 = .ok (.aload_n 0, 1) := by decide +kernel
theorem dX8_rank_65 : decode cX8_rank 65 = .ok (.iload_n 1, 1) := by decide +kernel
theorem dX8_rank_66 : decode cX8_rank 66 = .ok (.iconst 1, 1) := by decide +kernel
theorem dX8_rank_67 : decode cX8_rank 67 = .ok (.invokevirtual 35, 3) := by decide +kernel
theorem dX8_rank_70 : decode cX8_rank 70 = .ok (.if_icmp .ne 12, 3) := by decide +kernel
theorem dX8_rank_73 : decode cX8_rank 73 = .ok (.iload 4, 2) := by decide +kernel
theorem dX8_rank_75 : decode cX8_rank 75 = .ok (.ifCond .eq 7, 3) := by decide +kernel
theorem dX8_rank_78 : decode cX8_rank 78 = .ok (.iconst 1, 1) := by decide +kernel
theorem dX8_rank_79 : decode cX8_rank 79 = .ok (.goto 4, 3) := by decide +kernel
theorem dX8_rank_82 : decode cX8_rank 82 = .ok (.iconst 0, 1) := by decide +kernel
theorem dX8_rank_83 : decode cX8_rank 83 = .ok (.iadd, 1) := by decide +kernel
theorem dX8_rank_84 : decode cX8_rank 84 = .ok (.istore_n 2, 1) := by decide +kernel
theorem dX8_rank_85 : decode cX8_rank 85 = .ok (.iinc 3 1, 3) := by decide +kernel
theorem dX8_rank_88 : decode cX8_rank 88 = .ok (.goto (-84), 3) := by decide +kernel
theorem dX8_rank_91 : decode cX8_rank 91 = .ok (.iload_n 2, 1) := by decide +kernel
theorem dX8_rank_92 : decode cX8_rank 92 = .ok (.ireturn, 1) := by decide +kernel
theorem dX8_waiting_0 : decode cX8_waiting 0 = .ok (.iload_n 1, 1) := by decide +kernel
theorem dX8_waiting_1 : decode cX8_waiting 1 = .ok (.i2l, 1) := by decide +kernel
theorem dX8_waiting_2 : decode cX8_waiting 2 = .ok (.iconst 0, 1) := by decide +kernel
theorem dX8_waiting_3 : decode cX8_waiting 3 = .ok (.iconst 1, 1) := by decide +kernel
theorem dX8_waiting_4 : decode cX8_waiting 4 = .ok (.invokestatic 43, 3) := by decide +kernel
theorem dX8_waiting_7 : decode cX8_waiting 7 = .ok (.ifCond .ne 6, 3) := by decide +kernel
theorem dX8_waiting_10 : decode cX8_waiting 10 = .ok (.bipush (-2), 2) := by decide +kernel
theorem dX8_waiting_12 : decode cX8_waiting 12 = .ok (.ireturn, 1) := by decide +kernel
theorem dX8_waiting_13 : decode cX8_waiting 13 = .ok (.iconst 0, 1) := by decide +kernel
theorem dX8_waiting_14 : decode cX8_waiting 14 = .ok (.istore_n 3, 1) := by decide +kernel
theorem dX8_waiting_15 : decode cX8_waiting 15 = .ok (.iload_n 3, 1) := by decide +kernel
theorem dX8_waiting_16 : decode cX8_waiting 16 = .ok (.aload_n 0, 1) := by decide +kernel
theorem dX8_waiting_17 : decode cX8_waiting 17 = .ok (.getfield 7, 3) := by decide +kernel
theorem dX8_waiting_20 : decode cX8_waiting 20 = .ok (.bipush 7, 2) := by decide +kernel
theorem dX8_waiting_22 : decode cX8_waiting 22 = .ok (.iaload, 1) := by decide +kernel
theorem dX8_waiting_23 : decode cX8_waiting 23 = .ok (.if_icmp .ge 35, 3) := by decide +kernel
theorem dX8_waiting_26 : decode cX8_waiting 26 = .ok (.aload_n 0, 1) := by decide +kernel
theorem dX8_waiting_27 : decode cX8_waiting 27 = .ok (.iload_n 3, 1) := by decide +kernel
theorem dX8_waiting_28 : decode cX8_waiting 28 = .ok (.iconst 1, 1) := by decide +kernel
theorem dX8_waiting_29 : decode cX8_waiting 29 = .ok (.invokevirtual 35, 3) := by decide +kernel
theorem dX8_waiting_32 : decode cX8_waiting 32 = .ok (.iload_n 1, 1) := by decide +kernel
theorem dX8_waiting_33 : decode cX8_waiting 33 = .ok (.if_icmp .ne 19, 3) := by decide +kernel
theorem dX8_waiting_36 : decode cX8_waiting 36 = .ok (.aload_n 0, 1) := by decide +kernel
theorem dX8_waiting_37 : decode cX8_waiting 37 = .ok (.iload_n 3, 1) := by decide +kernel
theorem dX8_waiting_38 : decode cX8_waiting 38 = .ok (.invokevirtual 133, 3) := by decide +kernel
theorem dX8_waiting_41 : decode cX8_waiting 41 = .ok (.iload_n 2, 1) := by decide +kernel
theorem dX8_waiting_42 : decode cX8_waiting 42 = .ok (.if_icmp .ne 10, 3) := by decide +kernel
theorem dX8_waiting_45 : decode cX8_waiting 45 = .ok (.aload_n 0, 1) := by decide +kernel
theorem dX8_waiting_46 : decode cX8_waiting 46 = .ok (.iload_n 3, 1) := by decide +kernel
theorem dX8_waiting_47 : decode cX8_waiting 47 = .ok (.iconst 0, 1) := by decide +kernel
theorem dX8_waiting_48 : decode cX8_waiting 48 = .ok (.invokevirtual 35, 3) := by decide +kernel
theorem dX8_waiting_51 : decode cX8_waiting 51 = .ok (.ireturn, 1) := by decide +kernel
theorem dX8_waiting_52 : decode cX8_waiting 52 = .ok (.iinc 3 1, 3) := by decide +kernel
theorem dX8_waiting_55 : decode cX8_waiting 55 = .ok (.goto (-40), 3) := by decide +kernel
theorem dX8_waiting_58 : decode cX8_waiting 58 = .ok (.iconst (-1), 1) := by decide +kernel
theorem dX8_waiting_59 : decode cX8_waiting 59 = .ok (.ireturn, 1) := by decide +kernel
theorem dX8_log_0 : decode cX8_log 0 = .ok (.iload_n 1, 1) := by decide +kernel
theorem dX8_log_1 : decode cX8_log 1 = .ok (.i2l, 1) := by decide +kernel
theorem dX8_log_2 : decode cX8_log 2 = .ok (.iconst 0, 1) := by decide +kernel
theorem dX8_log_3 : decode cX8_log 3 = .ok (.aload_n 0, 1) := by decide +kernel
theorem dX8_log_4 : decode cX8_log 4 = .ok (.getfield 7, 3) := by decide +kernel
theorem dX8_log_7 : decode cX8_log 7 = .ok (.bipush 17, 2) := by decide +kernel
theorem dX8_log_9 : decode cX8_log 9 = .ok (.iaload, 1) := by decide +kernel
theorem dX8_log_10 : decode cX8_log 10 = .ok (.iconst 1, 1) := by decide +kernel
theorem dX8_log_11 : decode cX8_log 11 = .ok (.isub, 1) := by decide +kernel
theorem dX8_log_12 : decode cX8_log 12 = .ok (.invokestatic 43, 3) := by decide +kernel
theorem dX8_log_15 : decode cX8_log 15 = .ok (.ifCond .ne 7, 3) := by decide +kernel
theorem dX8_log_18 : decode cX8_log 18 = .ok (.iconst (-1), 1) := by decide +kernel
theorem dX8_log_19 : decode cX8_log 19 = .ok (.goto 31, 3) := by decide +kernel
theorem dX8_log_22 : decode cX8_log 22 = .ok (.iload_n 2, 1) := by decide +kernel
theorem dX8_log_23 : decode cX8_log 23 = .ok (.i2l, 1) := by decide +kernel
theorem dX8_log_24 : decode cX8_log 24 = .ok (.iconst 0, 1) := by decide +kernel
theorem dX8_log_25 : decode cX8_log 25 = .ok (.iconst 2, 1) := by decide +kernel
theorem dX8_log_26 : decode cX8_log 26 = .ok (.invokestatic 43, 3) := by decide +kernel
theorem dX8_log_29 : decode cX8_log 29 = .ok (.ifCond .eq 19, 3) := by decide +kernel
theorem dX8_log_32 : decode cX8_log 32 = .ok (.aload_n 0, 1) := by decide +kernel
theorem dX8_log_33 : decode cX8_log 33 = .ok (.getfield 7, 3) := by decide +kernel
theorem dX8_log_36 : decode cX8_log 36 = .ok (.bipush 18, 2) := by decide +kernel
theorem dX8_log_38 : decode cX8_log 38 = .ok (.iconst 3, 1) := by decide +kernel
theorem dX8_log_39 : decode cX8_log 39 = .ok (.iload_n 1, 1) := by decide +kernel
theorem dX8_log_40 : decode cX8_log 40 = .ok (.imul, 1) := by decide +kernel
theorem dX8_log_41 : decode cX8_log 41 = .ok (.iadd, 1) := by decide +kernel
theorem dX8_log_42 : decode cX8_log 42 = .ok (.iload_n 2, 1) := by decide +kernel
theorem dX8_log_43 : decode cX8_log 43 = .ok (.iadd, 1) := by decide +kernel
theorem dX8_log_44 : decode cX8_log 44 = .ok (.iaload, 1) := by decide +kernel
theorem dX8_log_45 : decode cX8_log 45 = .ok (.goto 5, 3) := by decide +kernel
theorem dX8_log_48 : decode cX8_log 48 = .ok (.bipush (-2), 2) := by decide +kernel
theorem dX8_log_50 : decode cX8_log 50 = .ok (.ireturn, 1) := by decide +kernel
theorem dX8_count_0 : decode cX8_count 0 = .ok (.iload_n 1, 1) := by decide +kernel
theorem dX8_count_1 : decode cX8_count 1 = .ok (.i2l, 1) := by decide +kernel
theorem dX8_count_2 : decode cX8_count 2 = .ok (.bipush 10, 2) := by decide +kernel
theorem dX8_count_4 : decode cX8_count 4 = .ok (.bipush 15, 2) := by decide +kernel
theorem dX8_count_6 : decode cX8_count 6 = .ok (.invokestatic 43, 3) := by decide +kernel
theorem dX8_count_9 : decode cX8_count 9 = .ok (.ifCond .eq 13, 3) := by decide +kernel
theorem dX8_count_12 : decode cX8_count 12 = .ok (.aload_n 0, 1) := by decide +kernel
theorem dX8_count_13 : decode cX8_count 13 = .ok (.getfield 7, 3) := by decide +kernel
theorem dX8_count_16 : decode cX8_count 16 = .ok (.iload_n 1, 1) := by decide +kernel
theorem dX8_count_17 : decode cX8_count 17 = .ok (.bipush 10, 2) := by decide +kernel
theorem dX8_count_19 : decode cX8_count 19 = .ok (.isub, 1) := by decide +kernel
theorem dX8_count_20 : decode cX8_count 20 = .ok (.iaload, 1) := by decide +kernel
theorem dX8_count_21 : decode cX8_count 21 = .ok (.ireturn, 1) := by decide +kernel
theorem dX8_count_22 : decode cX8_count 22 = .ok (.iload_n 1, 1) := by decide +kernel
theorem dX8_count_23 : decode cX8_count 23 = .ok (.tableswitch 167 0 17 #[85, 93, 93, 101, 109, 117, 125, 133, 141, 149, 167, 167, 167, 167, 167, 167, 157, 162], 85) := by decide +kernel
theorem dX8_count_108 : decode cX8_count 108 = .ok (.aload_n 0, 1) := by decide +kernel
theorem dX8_count_109 : decode cX8_count 109 = .ok (.getfield 7, 3) := by decide +kernel
theorem dX8_count_112 : decode cX8_count 112 = .ok (.bipush 6, 2) := by decide +kernel
theorem dX8_count_114 : decode cX8_count 114 = .ok (.iaload, 1) := by decide +kernel
theorem dX8_count_115 : decode cX8_count 115 = .ok (.ireturn, 1) := by decide +kernel
theorem dX8_count_116 : decode cX8_count 116 = .ok (.aload_n 0, 1) := by decide +kernel
theorem dX8_count_117 : decode cX8_count 117 = .ok (.iload_n 1, 1) := by decide +kernel
theorem dX8_count_118 : decode cX8_count 118 = .ok (.iconst 1, 1) := by decide +kernel
theorem dX8_count_119 : decode cX8_count 119 = .ok (.isub, 1) := by decide +kernel
theorem dX8_count_120 : decode cX8_count 120 = .ok (.invokevirtual 54, 3) := by decide +kernel
theorem dX8_count_123 : decode cX8_count 123 = .ok (.ireturn, 1) := by decide +kernel
theorem dX8_count_124 : decode cX8_count 124 = .ok (.aload_n 0, 1) := by decide +kernel
theorem dX8_count_125 : decode cX8_count 125 = .ok (.getfield 7, 3) := by decide +kernel
theorem dX8_count_128 : decode cX8_count 128 = .ok (.bipush 9, 2) := by decide +kernel
theorem dX8_count_130 : decode cX8_count 130 = .ok (.iaload, 1) := by decide +kernel
theorem dX8_count_131 : decode cX8_count 131 = .ok (.ireturn, 1) := by decide +kernel
theorem dX8_count_132 : decode cX8_count 132 = .ok (.aload_n 0, 1) := by decide +kernel
theorem dX8_count_133 : decode cX8_count 133 = .ok (.getfield 7, 3) := by decide +kernel
theorem dX8_count_136 : decode cX8_count 136 = .ok (.bipush 10, 2) := by decide +kernel
theorem dX8_count_138 : decode cX8_count 138 = .ok (.iaload, 1) := by decide +kernel
theorem dX8_count_139 : decode cX8_count 139 = .ok (.ireturn, 1) := by decide +kernel
theorem dX8_count_140 : decode cX8_count 140 = .ok (.aload_n 0, 1) := by decide +kernel
theorem dX8_count_141 : decode cX8_count 141 = .ok (.getfield 7, 3) := by decide +kernel
theorem dX8_count_144 : decode cX8_count 144 = .ok (.bipush 11, 2) := by decide +kernel
theorem dX8_count_146 : decode cX8_count 146 = .ok (.iaload, 1) := by decide +kernel
theorem dX8_count_147 : decode cX8_count 147 = .ok (.ireturn, 1) := by decide +kernel
theorem dX8_count_148 : decode cX8_count 148 = .ok (.aload_n 0, 1) := by decide +kernel
theorem dX8_count_149 : decode cX8_count 149 = .ok (.getfield 7, 3) := by decide +kernel
theorem dX8_count_152 : decode cX8_count 152 = .ok (.bipush 12, 2) := by decide +kernel
theorem dX8_count_154 : decode cX8_count 154 = .ok (.iaload, 1) := by decide +kernel
theorem dX8_count_155 : decode cX8_count 155 = .ok (.ireturn, 1) := by decide +kernel
theorem dX8_count_156 : decode cX8_count 156 = .ok (.aload_n 0, 1) := by decide +kernel
theorem dX8_count_157 : decode cX8_count 157 = .ok (.getfield 7, 3) := by decide +kernel
theorem dX8_count_160 : decode cX8_count 160 = .ok (.bipush 13, 2) := by decide +kernel
theorem dX8_count_162 : decode cX8_count 162 = .ok (.iaload, 1) := by decide +kernel
theorem dX8_count_163 : decode cX8_count 163 = .ok (.ireturn, 1) := by decide +kernel
theorem dX8_count_164 : decode cX8_count 164 = .ok (.aload_n 0, 1) := by decide +kernel
theorem dX8_count_165 : decode cX8_count 165 = .ok (.getfield 7, 3) := by decide +kernel
theorem dX8_count_168 : decode cX8_count 168 = .ok (.bipush 14, 2) := by decide +kernel
theorem dX8_count_170 : decode cX8_count 170 = .ok (.iaload, 1) := by decide +kernel
theorem dX8_count_171 : decode cX8_count 171 = .ok (.ireturn, 1) := by decide +kernel
theorem dX8_count_172 : decode cX8_count 172 = .ok (.aload_n 0, 1) := by decide +kernel
theorem dX8_count_173 : decode cX8_count 173 = .ok (.getfield 7, 3) := by decide +kernel
theorem dX8_count_176 : decode cX8_count 176 = .ok (.bipush 15, 2) := by decide +kernel
theorem dX8_count_178 : decode cX8_count 178 = .ok (.iaload, 1) := by decide +kernel
theorem dX8_count_179 : decode cX8_count 179 = .ok (.ireturn, 1) := by decide +kernel
theorem dX8_count_180 : decode cX8_count 180 = .ok (.aload_n 0, 1) := by decide +kernel
theorem dX8_count_181 : decode cX8_count 181 = .ok (.getfield 136, 3) := by decide +kernel
theorem dX8_count_184 : decode cX8_count 184 = .ok (.ireturn, 1) := by decide +kernel
theorem dX8_count_185 : decode cX8_count 185 = .ok (.aload_n 0, 1) := by decide +kernel
theorem dX8_count_186 : decode cX8_count 186 = .ok (.getfield 39, 3) := by decide +kernel
theorem dX8_count_189 : decode cX8_count 189 = .ok (.ireturn, 1) := by decide +kernel
theorem dX8_count_190 : decode cX8_count 190 = .ok (.bipush (-2), 2) := by decide +kernel
theorem dX8_count_192 : decode cX8_count 192 = .ok (.ireturn, 1) := by decide +kernel
theorem dX8_next_0 : decode cX8_next 0 = .ok (.iload_n 1, 1) := by decide +kernel
theorem dX8_next_1 : decode cX8_next 1 = .ok (.i2l, 1) := by decide +kernel
theorem dX8_next_2 : decode cX8_next 2 = .ok (.iconst 0, 1) := by decide +kernel
theorem dX8_next_3 : decode cX8_next 3 = .ok (.iconst 2, 1) := by decide +kernel
theorem dX8_next_4 : decode cX8_next 4 = .ok (.invokestatic 43, 3) := by decide +kernel
theorem dX8_next_7 : decode cX8_next 7 = .ok (.ifCond .ne 6, 3) := by decide +kernel
theorem dX8_next_10 : decode cX8_next 10 = .ok (.bipush (-2), 2) := by decide +kernel
theorem dX8_next_12 : decode cX8_next 12 = .ok (.ireturn, 1) := by decide +kernel
theorem dX8_next_13 : decode cX8_next 13 = .ok (.aload_n 0, 1) := by decide +kernel
theorem dX8_next_14 : decode cX8_next 14 = .ok (.getfield 7, 3) := by decide +kernel
theorem dX8_next_17 : decode cX8_next 17 = .ok (.bipush 7, 2) := by decide +kernel
theorem dX8_next_19 : decode cX8_next 19 = .ok (.iaload, 1) := by decide +kernel
theorem dX8_next_20 : decode cX8_next 20 = .ok (.ifCond .ne 6, 3) := by decide +kernel
theorem dX8_next_23 : decode cX8_next 23 = .ok (.bipush (-6), 2) := by decide +kernel
theorem dX8_next_25 : decode cX8_next 25 = .ok (.ireturn, 1) := by decide +kernel
theorem dX8_next_26 : decode cX8_next 26 = .ok (.aload_n 0, 1) := by decide +kernel
theorem dX8_next_27 : decode cX8_next 27 = .ok (.invokevirtual 80, 3) := by decide +kernel
theorem dX8_next_30 : decode cX8_next 30 = .ok (.iload_n 1, 1) := by decide +kernel
theorem dX8_next_31 : decode cX8_next 31 = .ok (.ifCond .ne 15, 3) := by decide +kernel
theorem dX8_next_34 : decode cX8_next 34 = .ok (.aload_n 0, 1) := by decide +kernel
theorem dX8_next_35 : decode cX8_next 35 = .ok (.aload_n 0, 1) := by decide +kernel
theorem dX8_next_36 : decode cX8_next 36 = .ok (.getfield 60, 3) := by decide +kernel
theorem dX8_next_39 : decode cX8_next 39 = .ok (.iconst 0, 1) := by decide +kernel
theorem dX8_next_40 : decode cX8_next 40 = .ok (.invokevirtual 35, 3) := by decide +kernel
theorem dX8_next_43 : decode cX8_next 43 = .ok (.goto 19, 3) := by decide +kernel
theorem dX8_next_46 : decode cX8_next 46 = .ok (.iload_n 1, 1) := by decide +kernel
theorem dX8_next_47 : decode cX8_next 47 = .ok (.iconst 1, 1) := by decide +kernel
theorem dX8_next_48 : decode cX8_next 48 = .ok (.if_icmp .ne 10, 3) := by decide +kernel
theorem dX8_next_51 : decode cX8_next 51 = .ok (.aload_n 0, 1) := by decide +kernel
theorem dX8_next_52 : decode cX8_next 52 = .ok (.getfield 63, 3) := by decide +kernel
theorem dX8_next_55 : decode cX8_next 55 = .ok (.goto 7, 3) := by decide +kernel
theorem dX8_next_58 : decode cX8_next 58 = .ok (.aload_n 0, 1) := by decide +kernel
theorem dX8_next_59 : decode cX8_next 59 = .ok (.invokevirtual 83, 3) := by decide +kernel
theorem dX8_next_62 : decode cX8_next 62 = .ok (.ireturn, 1) := by decide +kernel
theorem dX8_servedIn_0 : decode cX8_servedIn 0 = .ok (.aload_n 0, 1) := by decide +kernel
theorem dX8_servedIn_1 : decode cX8_servedIn 1 = .ok (.iload_n 1, 1) := by decide +kernel
theorem dX8_servedIn_2 : decode cX8_servedIn 2 = .ok (.invokevirtual 124, 3) := by decide +kernel
theorem dX8_servedIn_5 : decode cX8_servedIn 5 = .ok (.bipush (-6), 2) := by decide +kernel
theorem dX8_servedIn_7 : decode cX8_servedIn 7 = .ok (.if_icmp .ne 5, 3) := by decide +kernel
theorem dX8_servedIn_10 : decode cX8_servedIn 10 = .ok (.iconst (-1), 1) := by decide +kernel
theorem dX8_servedIn_11 : decode cX8_servedIn 11 = .ok (.ireturn, 1) := by decide +kernel
theorem dX8_servedIn_12 : decode cX8_servedIn 12 = .ok (.aload_n 0, 1) := by decide +kernel
theorem dX8_servedIn_13 : decode cX8_servedIn 13 = .ok (.invokevirtual 105, 3) := by decide +kernel
theorem dX8_servedIn_16 : decode cX8_servedIn 16 = .ok (.aload_n 0, 1) := by decide +kernel
theorem dX8_servedIn_17 : decode cX8_servedIn 17 = .ok (.getfield 7, 3) := by decide +kernel
theorem dX8_servedIn_20 : decode cX8_servedIn 20 = .ok (.bipush 6, 2) := by decide +kernel
theorem dX8_servedIn_22 : decode cX8_servedIn 22 = .ok (.iaload, 1) := by decide +kernel
theorem dX8_servedIn_23 : decode cX8_servedIn 23 = .ok (.istore_n 2, 1) := by decide +kernel
theorem dX8_servedIn_24 : decode cX8_servedIn 24 = .ok (.aload_n 0, 1) := by decide +kernel
theorem dX8_servedIn_25 : decode cX8_servedIn 25 = .ok (.iload_n 1, 1) := by decide +kernel
theorem dX8_servedIn_26 : decode cX8_servedIn 26 = .ok (.invokevirtual 124, 3) := by decide +kernel
theorem dX8_servedIn_29 : decode cX8_servedIn 29 = .ok (.bipush (-6), 2) := by decide +kernel
theorem dX8_servedIn_31 : decode cX8_servedIn 31 = .ok (.if_icmp .eq 10, 3) := by decide +kernel
theorem dX8_servedIn_34 : decode cX8_servedIn 34 = .ok (.aload_n 0, 1) := by decide +kernel
theorem dX8_servedIn_35 : decode cX8_servedIn 35 = .ok (.invokevirtual 108, 3) := by decide +kernel
theorem dX8_servedIn_38 : decode cX8_servedIn 38 = .ok (.goto (-14), 3) := by decide +kernel
theorem dX8_servedIn_41 : decode cX8_servedIn 41 = .ok (.aload_n 0, 1) := by decide +kernel
theorem dX8_servedIn_42 : decode cX8_servedIn 42 = .ok (.getfield 7, 3) := by decide +kernel
theorem dX8_servedIn_45 : decode cX8_servedIn 45 = .ok (.bipush 6, 2) := by decide +kernel
theorem dX8_servedIn_47 : decode cX8_servedIn 47 = .ok (.iaload, 1) := by decide +kernel
theorem dX8_servedIn_48 : decode cX8_servedIn 48 = .ok (.iload_n 2, 1) := by decide +kernel
theorem dX8_servedIn_49 : decode cX8_servedIn 49 = .ok (.isub, 1) := by decide +kernel
theorem dX8_servedIn_50 : decode cX8_servedIn 50 = .ok (.istore_n 3, 1) := by decide +kernel
theorem dX8_servedIn_51 : decode cX8_servedIn 51 = .ok (.aload_n 0, 1) := by decide +kernel
theorem dX8_servedIn_52 : decode cX8_servedIn 52 = .ok (.invokevirtual 112, 3) := by decide +kernel
theorem dX8_servedIn_55 : decode cX8_servedIn 55 = .ok (.iload_n 3, 1) := by decide +kernel
theorem dX8_servedIn_56 : decode cX8_servedIn 56 = .ok (.ireturn, 1) := by decide +kernel
theorem dX8_all_0 : decode cX8_all 0 = .ok (.iload_n 1, 1) := by decide +kernel
theorem dX8_all_1 : decode cX8_all 1 = .ok (.i2l, 1) := by decide +kernel
theorem dX8_all_2 : decode cX8_all 2 = .ok (.iconst 0, 1) := by decide +kernel
theorem dX8_all_3 : decode cX8_all 3 = .ok (.iconst 2, 1) := by decide +kernel
theorem dX8_all_4 : decode cX8_all 4 = .ok (.invokestatic 43, 3) := by decide +kernel
theorem dX8_all_7 : decode cX8_all 7 = .ok (.ifCond .ne 6, 3) := by decide +kernel
theorem dX8_all_10 : decode cX8_all 10 = .ok (.bipush (-2), 2) := by decide +kernel
theorem dX8_all_12 : decode cX8_all 12 = .ok (.ireturn, 1) := by decide +kernel
theorem dX8_all_13 : decode cX8_all 13 = .ok (.aload_n 0, 1) := by decide +kernel
theorem dX8_all_14 : decode cX8_all 14 = .ok (.getfield 7, 3) := by decide +kernel
theorem dX8_all_17 : decode cX8_all 17 = .ok (.bipush 7, 2) := by decide +kernel
theorem dX8_all_19 : decode cX8_all 19 = .ok (.iaload, 1) := by decide +kernel
theorem dX8_all_20 : decode cX8_all 20 = .ok (.ifCond .ne 6, 3) := by decide +kernel
theorem dX8_all_23 : decode cX8_all 23 = .ok (.bipush (-6), 2) := by decide +kernel
theorem dX8_all_25 : decode cX8_all 25 = .ok (.ireturn, 1) := by decide +kernel
theorem dX8_all_26 : decode cX8_all 26 = .ok (.aload_n 0, 1) := by decide +kernel
theorem dX8_all_27 : decode cX8_all 27 = .ok (.invokevirtual 105, 3) := by decide +kernel
theorem dX8_all_30 : decode cX8_all 30 = .ok (.aload_n 0, 1) := by decide +kernel
theorem dX8_all_31 : decode cX8_all 31 = .ok (.getfield 7, 3) := by decide +kernel
theorem dX8_all_34 : decode cX8_all 34 = .ok (.bipush 6, 2) := by decide +kernel
theorem dX8_all_36 : decode cX8_all 36 = .ok (.iaload, 1) := by decide +kernel
theorem dX8_all_37 : decode cX8_all 37 = .ok (.istore_n 2, 1) := by decide +kernel
theorem dX8_all_38 : decode cX8_all 38 = .ok (.aload_n 0, 1) := by decide +kernel
theorem dX8_all_39 : decode cX8_all 39 = .ok (.getfield 7, 3) := by decide +kernel
theorem dX8_all_42 : decode cX8_all 42 = .ok (.bipush 12, 2) := by decide +kernel
theorem dX8_all_44 : decode cX8_all 44 = .ok (.iaload, 1) := by decide +kernel
theorem dX8_all_45 : decode cX8_all 45 = .ok (.istore_n 3, 1) := by decide +kernel
theorem dX8_all_46 : decode cX8_all 46 = .ok (.aload_n 0, 1) := by decide +kernel
theorem dX8_all_47 : decode cX8_all 47 = .ok (.getfield 7, 3) := by decide +kernel
theorem dX8_all_50 : decode cX8_all 50 = .ok (.bipush 11, 2) := by decide +kernel
theorem dX8_all_52 : decode cX8_all 52 = .ok (.iconst 0, 1) := by decide +kernel
theorem dX8_all_53 : decode cX8_all 53 = .ok (.iastore, 1) := by decide +kernel
theorem dX8_all_54 : decode cX8_all 54 = .ok (.aload_n 0, 1) := by decide +kernel
theorem dX8_all_55 : decode cX8_all 55 = .ok (.getfield 7, 3) := by decide +kernel
theorem dX8_all_58 : decode cX8_all 58 = .ok (.bipush 7, 2) := by decide +kernel
theorem dX8_all_60 : decode cX8_all 60 = .ok (.iaload, 1) := by decide +kernel
theorem dX8_all_61 : decode cX8_all 61 = .ok (.ifCond .le 10, 3) := by decide +kernel
theorem dX8_all_64 : decode cX8_all 64 = .ok (.aload_n 0, 1) := by decide +kernel
theorem dX8_all_65 : decode cX8_all 65 = .ok (.invokevirtual 108, 3) := by decide +kernel
theorem dX8_all_68 : decode cX8_all 68 = .ok (.goto (-14), 3) := by decide +kernel
theorem dX8_all_71 : decode cX8_all 71 = .ok (.iload_n 1, 1) := by decide +kernel
theorem dX8_all_72 : decode cX8_all 72 = .ok (.ifCond .ne 15, 3) := by decide +kernel
theorem dX8_all_75 : decode cX8_all 75 = .ok (.aload_n 0, 1) := by decide +kernel
theorem dX8_all_76 : decode cX8_all 76 = .ok (.getfield 7, 3) := by decide +kernel
theorem dX8_all_79 : decode cX8_all 79 = .ok (.bipush 6, 2) := by decide +kernel
theorem dX8_all_81 : decode cX8_all 81 = .ok (.iaload, 1) := by decide +kernel
theorem dX8_all_82 : decode cX8_all 82 = .ok (.iload_n 2, 1) := by decide +kernel
theorem dX8_all_83 : decode cX8_all 83 = .ok (.isub, 1) := by decide +kernel
theorem dX8_all_84 : decode cX8_all 84 = .ok (.goto 27, 3) := by decide +kernel
theorem dX8_all_87 : decode cX8_all 87 = .ok (.iload_n 1, 1) := by decide +kernel
theorem dX8_all_88 : decode cX8_all 88 = .ok (.iconst 1, 1) := by decide +kernel
theorem dX8_all_89 : decode cX8_all 89 = .ok (.if_icmp .ne 15, 3) := by decide +kernel
theorem dX8_all_92 : decode cX8_all 92 = .ok (.aload_n 0, 1) := by decide +kernel
theorem dX8_all_93 : decode cX8_all 93 = .ok (.getfield 7, 3) := by decide +kernel
theorem dX8_all_96 : decode cX8_all 96 = .ok (.bipush 12, 2) := by decide +kernel
theorem dX8_all_98 : decode cX8_all 98 = .ok (.iaload, 1) := by decide +kernel
theorem dX8_all_99 : decode cX8_all 99 = .ok (.iload_n 3, 1) := by decide +kernel
theorem dX8_all_100 : decode cX8_all 100 = .ok (.isub, 1) := by decide +kernel
theorem dX8_all_101 : decode cX8_all 101 = .ok (.goto 10, 3) := by decide +kernel
theorem dX8_all_104 : decode cX8_all 104 = .ok (.aload_n 0, 1) := by decide +kernel
theorem dX8_all_105 : decode cX8_all 105 = .ok (.getfield 7, 3) := by decide +kernel
theorem dX8_all_108 : decode cX8_all 108 = .ok (.bipush 11, 2) := by decide +kernel
theorem dX8_all_110 : decode cX8_all 110 = .ok (.iaload, 1) := by decide +kernel
theorem dX8_all_111 : decode cX8_all 111 = .ok (.istore 4, 2) := by decide +kernel
theorem dX8_all_113 : decode cX8_all 113 = .ok (.aload_n 0, 1) := by decide +kernel
theorem dX8_all_114 : decode cX8_all 114 = .ok (.invokevirtual 112, 3) := by decide +kernel
theorem dX8_all_117 : decode cX8_all 117 = .ok (.iload 4, 2) := by decide +kernel
theorem dX8_all_119 : decode cX8_all 119 = .ok (.ireturn, 1) := by decide +kernel
theorem dX8_joined_0 : decode cX8_joined 0 = .ok (.iload_n 1, 1) := by decide +kernel
theorem dX8_joined_1 : decode cX8_joined 1 = .ok (.iload_n 2, 1) := by decide +kernel
theorem dX8_joined_2 : decode cX8_joined 2 = .ok (.iload_n 3, 1) := by decide +kernel
theorem dX8_joined_3 : decode cX8_joined 3 = .ok (.invokestatic 97, 3) := by decide +kernel
theorem dX8_joined_6 : decode cX8_joined 6 = .ok (.ifCond .ne 6, 3) := by decide +kernel
theorem dX8_joined_9 : decode cX8_joined 9 = .ok (.bipush (-2), 2) := by decide +kernel
theorem dX8_joined_11 : decode cX8_joined 11 = .ok (.ireturn, 1) := by decide +kernel
theorem dX8_joined_12 : decode cX8_joined 12 = .ok (.aload_n 0, 1) := by decide +kernel
theorem dX8_joined_13 : decode cX8_joined 13 = .ok (.iload_n 1, 1) := by decide +kernel
theorem dX8_joined_14 : decode cX8_joined 14 = .ok (.iload_n 2, 1) := by decide +kernel
theorem dX8_joined_15 : decode cX8_joined 15 = .ok (.iload_n 3, 1) := by decide +kernel
theorem dX8_joined_16 : decode cX8_joined 16 = .ok (.invokevirtual 101, 3) := by decide +kernel
theorem dX8_joined_19 : decode cX8_joined 19 = .ok (.istore 4, 2) := by decide +kernel
theorem dX8_joined_21 : decode cX8_joined 21 = .ok (.iload 4, 2) := by decide +kernel
theorem dX8_joined_23 : decode cX8_joined 23 = .ok (.bipush (-6), 2) := by decide +kernel
theorem dX8_joined_25 : decode cX8_joined 25 = .ok (.if_icmp .ne 8, 3) := by decide +kernel
theorem dX8_joined_28 : decode cX8_joined 28 = .ok (.bipush (-6), 2) := by decide +kernel
theorem dX8_joined_30 : decode cX8_joined 30 = .ok (.goto 10, 3) := by decide +kernel
theorem dX8_joined_33 : decode cX8_joined 33 = .ok (.aload_n 0, 1) := by decide +kernel
theorem dX8_joined_34 : decode cX8_joined 34 = .ok (.iload 4, 2) := by decide +kernel
theorem dX8_joined_36 : decode cX8_joined 36 = .ok (.iconst 0, 1) := by decide +kernel
theorem dX8_joined_37 : decode cX8_joined 37 = .ok (.invokevirtual 35, 3) := by decide +kernel
theorem dX8_joined_40 : decode cX8_joined 40 = .ok (.ireturn, 1) := by decide +kernel
theorem dX8_put_0 : decode cX8_put 0 = .ok (.lload_n 1, 1) := by decide +kernel
theorem dX8_put_1 : decode cX8_put 1 = .ok (.lstore_n 3, 1) := by decide +kernel
theorem dX8_put_2 : decode cX8_put 2 = .ok (.iconst 0, 1) := by decide +kernel
theorem dX8_put_3 : decode cX8_put 3 = .ok (.istore 5, 2) := by decide +kernel
theorem dX8_put_5 : decode cX8_put 5 = .ok (.lload_n 3, 1) := by decide +kernel
theorem dX8_put_6 : decode cX8_put 6 = .ok (.lconst 0, 1) := by decide +kernel
theorem dX8_put_7 : decode cX8_put 7 = .ok (.lcmp, 1) := by decide +kernel
theorem dX8_put_8 : decode cX8_put 8 = .ok (.ifCond .eq 55, 3) := by decide +kernel
theorem dX8_put_11 : decode cX8_put 11 = .ok (.iload 5, 2) := by decide +kernel
theorem dX8_put_13 : decode cX8_put 13 = .ok (.bipush 8, 2) := by decide +kernel
theorem dX8_put_15 : decode cX8_put 15 = .ok (.if_icmp .ge 48, 3) := by decide +kernel
theorem dX8_put_18 : decode cX8_put 18 = .ok (.aload_n 0, 1) := by decide +kernel
theorem dX8_put_19 : decode cX8_put 19 = .ok (.getfield 32, 3) := by decide +kernel
theorem dX8_put_22 : decode cX8_put 22 = .ok (.iload 5, 2) := by decide +kernel
theorem dX8_put_24 : decode cX8_put 24 = .ok (.lload_n 3, 1) := by decide +kernel
theorem dX8_put_25 : decode cX8_put 25 = .ok (.ldc2_w 139, 3) := by decide +kernel
theorem dX8_put_28 : decode cX8_put 28 = .ok (.land, 1) := by decide +kernel
theorem dX8_put_29 : decode cX8_put 29 = .ok (.l2i, 1) := by decide +kernel
theorem dX8_put_30 : decode cX8_put 30 = .ok (.iastore, 1) := by decide +kernel
theorem dX8_put_31 : decode cX8_put 31 = .ok (.aload_n 0, 1) := by decide +kernel
theorem dX8_put_32 : decode cX8_put 32 = .ok (.getfield 32, 3) := by decide +kernel
theorem dX8_put_35 : decode cX8_put 35 = .ok (.iload 5, 2) := by decide +kernel
theorem dX8_put_37 : decode cX8_put 37 = .ok (.iaload, 1) := by decide +kernel
theorem dX8_put_38 : decode cX8_put 38 = .ok (.i2l, 1) := by decide +kernel
theorem dX8_put_39 : decode cX8_put 39 = .ok (.bipush 33, 2) := by decide +kernel
theorem dX8_put_41 : decode cX8_put 41 = .ok (.bipush 126, 2) := by decide +kernel
theorem dX8_put_43 : decode cX8_put 43 = .ok (.invokestatic 43, 3) := by decide +kernel
theorem dX8_put_46 : decode cX8_put 46 = .ok (.ifCond .ne 6, 3) := by decide +kernel
theorem dX8_put_49 : decode cX8_put 49 = .ok (.bipush (-2), 2) := by decide +kernel
theorem dX8_put_51 : decode cX8_put 51 = .ok (.ireturn, 1) := by decide +kernel
theorem dX8_put_52 : decode cX8_put 52 = .ok (.lload_n 3, 1) := by decide +kernel
theorem dX8_put_53 : decode cX8_put 53 = .ok (.bipush 8, 2) := by decide +kernel
theorem dX8_put_55 : decode cX8_put 55 = .ok (.lushr, 1) := by decide +kernel
theorem dX8_put_56 : decode cX8_put 56 = .ok (.lstore_n 3, 1) := by decide +kernel
theorem dX8_put_57 : decode cX8_put 57 = .ok (.iinc 5 1, 3) := by decide +kernel
theorem dX8_put_60 : decode cX8_put 60 = .ok (.goto (-55), 3) := by decide +kernel
theorem dX8_put_63 : decode cX8_put 63 = .ok (.iload 5, 2) := by decide +kernel
theorem dX8_put_65 : decode cX8_put 65 = .ok (.ifCond .ne 6, 3) := by decide +kernel
theorem dX8_put_68 : decode cX8_put 68 = .ok (.bipush (-2), 2) := by decide +kernel
theorem dX8_put_70 : decode cX8_put 70 = .ok (.ireturn, 1) := by decide +kernel
theorem dX8_put_71 : decode cX8_put 71 = .ok (.aload_n 0, 1) := by decide +kernel
theorem dX8_put_72 : decode cX8_put 72 = .ok (.getfield 136, 3) := by decide +kernel
theorem dX8_put_75 : decode cX8_put 75 = .ok (.iload 5, 2) := by decide +kernel
theorem dX8_put_77 : decode cX8_put 77 = .ok (.iadd, 1) := by decide +kernel
theorem dX8_put_78 : decode cX8_put 78 = .ok (.bipush 80, 2) := by decide +kernel
theorem dX8_put_80 : decode cX8_put 80 = .ok (.if_icmp .le 6, 3) := by decide +kernel
theorem dX8_put_83 : decode cX8_put 83 = .ok (.bipush (-4), 2) := by decide +kernel
theorem dX8_put_85 : decode cX8_put 85 = .ok (.ireturn, 1) := by decide +kernel
theorem dX8_put_86 : decode cX8_put 86 = .ok (.iload 5, 2) := by decide +kernel
theorem dX8_put_88 : decode cX8_put 88 = .ok (.iconst 1, 1) := by decide +kernel
theorem dX8_put_89 : decode cX8_put 89 = .ok (.isub, 1) := by decide +kernel
theorem dX8_put_90 : decode cX8_put 90 = .ok (.istore 6, 2) := by decide +kernel
theorem dX8_put_92 : decode cX8_put 92 = .ok (.iload 6, 2) := by decide +kernel
theorem dX8_put_94 : decode cX8_put 94 = .ok (.ifCond .lt 35, 3) := by decide +kernel
theorem dX8_put_97 : decode cX8_put 97 = .ok (.aload_n 0, 1) := by decide +kernel
theorem dX8_put_98 : decode cX8_put 98 = .ok (.getfield 29, 3) := by decide +kernel
theorem dX8_put_101 : decode cX8_put 101 = .ok (.aload_n 0, 1) := by decide +kernel
theorem dX8_put_102 : decode cX8_put 102 = .ok (.getfield 136, 3) := by decide +kernel
theorem dX8_put_105 : decode cX8_put 105 = .ok (.aload_n 0, 1) := by decide +kernel
theorem dX8_put_106 : decode cX8_put 106 = .ok (.getfield 32, 3) := by decide +kernel
theorem dX8_put_109 : decode cX8_put 109 = .ok (.iload 6, 2) := by decide +kernel
theorem dX8_put_111 : decode cX8_put 111 = .ok (.iaload, 1) := by decide +kernel
theorem dX8_put_112 : decode cX8_put 112 = .ok (.iastore, 1) := by decide +kernel
theorem dX8_put_113 : decode cX8_put 113 = .ok (.aload_n 0, 1) := by decide +kernel
theorem dX8_put_114 : decode cX8_put 114 = .ok (.dup, 1) := by decide +kernel
theorem dX8_put_115 : decode cX8_put 115 = .ok (.getfield 136, 3) := by decide +kernel
theorem dX8_put_118 : decode cX8_put 118 = .ok (.iconst 1, 1) := by decide +kernel
theorem dX8_put_119 : decode cX8_put 119 = .ok (.iadd, 1) := by decide +kernel
theorem dX8_put_120 : decode cX8_put 120 = .ok (.putfield 136, 3) := by decide +kernel
theorem dX8_put_123 : decode cX8_put 123 = .ok (.iinc 6 (-1), 3) := by decide +kernel
theorem dX8_put_126 : decode cX8_put 126 = .ok (.goto (-34), 3) := by decide +kernel
theorem dX8_put_129 : decode cX8_put 129 = .ok (.aload_n 0, 1) := by decide +kernel
theorem dX8_put_130 : decode cX8_put 130 = .ok (.getfield 136, 3) := by decide +kernel
theorem dX8_put_133 : decode cX8_put 133 = .ok (.ireturn, 1) := by decide +kernel
theorem dX8_wipe_0 : decode cX8_wipe 0 = .ok (.aload_n 0, 1) := by decide +kernel
theorem dX8_wipe_1 : decode cX8_wipe 1 = .ok (.getfield 136, 3) := by decide +kernel
theorem dX8_wipe_4 : decode cX8_wipe 4 = .ok (.istore_n 1, 1) := by decide +kernel
theorem dX8_wipe_5 : decode cX8_wipe 5 = .ok (.aload_n 0, 1) := by decide +kernel
theorem dX8_wipe_6 : decode cX8_wipe 6 = .ok (.iconst 0, 1) := by decide +kernel
theorem dX8_wipe_7 : decode cX8_wipe 7 = .ok (.putfield 136, 3) := by decide +kernel
theorem dX8_wipe_10 : decode cX8_wipe 10 = .ok (.iload_n 1, 1) := by decide +kernel
theorem dX8_wipe_11 : decode cX8_wipe 11 = .ok (.ireturn, 1) := by decide +kernel
theorem dX8_sees_0 : decode cX8_sees 0 = .ok (.aload_n 0, 1) := by decide +kernel
theorem dX8_sees_1 : decode cX8_sees 1 = .ok (.getfield 141, 3) := by decide +kernel
theorem dX8_sees_4 : decode cX8_sees 4 = .ok (.aload_n 0, 1) := by decide +kernel
theorem dX8_sees_5 : decode cX8_sees 5 = .ok (.getfield 136, 3) := by decide +kernel
theorem dX8_sees_8 : decode cX8_sees 8 = .ok (.if_icmp .ge 25, 3) := by decide +kernel
theorem dX8_sees_11 : decode cX8_sees 11 = .ok (.aload_n 0, 1) := by decide +kernel
theorem dX8_sees_12 : decode cX8_sees 12 = .ok (.getfield 29, 3) := by decide +kernel
theorem dX8_sees_15 : decode cX8_sees 15 = .ok (.aload_n 0, 1) := by decide +kernel
theorem dX8_sees_16 : decode cX8_sees 16 = .ok (.getfield 141, 3) := by decide +kernel
theorem dX8_sees_19 : decode cX8_sees 19 = .ok (.iaload, 1) := by decide +kernel
theorem dX8_sees_20 : decode cX8_sees 20 = .ok (.i2l, 1) := by decide +kernel
theorem dX8_sees_21 : decode cX8_sees 21 = .ok (.iload_n 1, 1) := by decide +kernel
theorem dX8_sees_22 : decode cX8_sees 22 = .ok (.iload_n 2, 1) := by decide +kernel
theorem dX8_sees_23 : decode cX8_sees 23 = .ok (.invokestatic 43, 3) := by decide +kernel
theorem dX8_sees_26 : decode cX8_sees 26 = .ok (.ifCond .eq 7, 3) := by decide +kernel
theorem dX8_sees_29 : decode cX8_sees 29 = .ok (.iconst 1, 1) := by decide +kernel
theorem dX8_sees_30 : decode cX8_sees 30 = .ok (.goto 4, 3) := by decide +kernel
theorem dX8_sees_33 : decode cX8_sees 33 = .ok (.iconst 0, 1) := by decide +kernel
theorem dX8_sees_34 : decode cX8_sees 34 = .ok (.ireturn, 1) := by decide +kernel
theorem dX8_number_0 : decode cX8_number 0 = .ok (.aload_n 0, 1) := by decide +kernel
theorem dX8_number_1 : decode cX8_number 1 = .ok (.getfield 29, 3) := by decide +kernel
theorem dX8_number_4 : decode cX8_number 4 = .ok (.aload_n 0, 1) := by decide +kernel
theorem dX8_number_5 : decode cX8_number 5 = .ok (.getfield 141, 3) := by decide +kernel
theorem dX8_number_8 : decode cX8_number 8 = .ok (.iaload, 1) := by decide +kernel
theorem dX8_number_9 : decode cX8_number 9 = .ok (.bipush 48, 2) := by decide +kernel
theorem dX8_number_11 : decode cX8_number 11 = .ok (.isub, 1) := by decide +kernel
theorem dX8_number_12 : decode cX8_number 12 = .ok (.istore_n 1, 1) := by decide +kernel
theorem dX8_number_13 : decode cX8_number 13 = .ok (.aload_n 0, 1) := by decide +kernel
theorem dX8_number_14 : decode cX8_number 14 = .ok (.dup, 1) := by decide +kernel
theorem dX8_number_15 : decode cX8_number 15 = .ok (.getfield 141, 3) := by decide +kernel
theorem dX8_number_18 : decode cX8_number 18 = .ok (.iconst 1, 1) := by decide +kernel
theorem dX8_number_19 : decode cX8_number 19 = .ok (.iadd, 1) := by decide +kernel
theorem dX8_number_20 : decode cX8_number 20 = .ok (.putfield 141, 3) := by decide +kernel
theorem dX8_number_23 : decode cX8_number 23 = .ok (.iload_n 1, 1) := by decide +kernel
theorem dX8_number_24 : decode cX8_number 24 = .ok (.ifCond .le 42, 3) := by decide +kernel
theorem dX8_number_27 : decode cX8_number 27 = .ok (.aload_n 0, 1) := by decide +kernel
theorem dX8_number_28 : decode cX8_number 28 = .ok (.bipush 48, 2) := by decide +kernel
theorem dX8_number_30 : decode cX8_number 30 = .ok (.bipush 57, 2) := by decide +kernel
theorem dX8_number_32 : decode cX8_number 32 = .ok (.invokevirtual 144, 3) := by decide +kernel
theorem dX8_number_35 : decode cX8_number 35 = .ok (.ifCond .eq 31, 3) := by decide +kernel
theorem dX8_number_38 : decode cX8_number 38 = .ok (.bipush 10, 2) := by decide +kernel
theorem dX8_number_40 : decode cX8_number 40 = .ok (.iload_n 1, 1) := by decide +kernel
theorem dX8_number_41 : decode cX8_number 41 = .ok (.imul, 1) := by decide +kernel
theorem dX8_number_42 : decode cX8_number 42 = .ok (.aload_n 0, 1) := by decide +kernel
theorem dX8_number_43 : decode cX8_number 43 = .ok (.getfield 29, 3) := by decide +kernel
theorem dX8_number_46 : decode cX8_number 46 = .ok (.aload_n 0, 1) := by decide +kernel
theorem dX8_number_47 : decode cX8_number 47 = .ok (.getfield 141, 3) := by decide +kernel
theorem dX8_number_50 : decode cX8_number 50 = .ok (.iaload, 1) := by decide +kernel
theorem dX8_number_51 : decode cX8_number 51 = .ok (.iadd, 1) := by decide +kernel
theorem dX8_number_52 : decode cX8_number 52 = .ok (.bipush 48, 2) := by decide +kernel
theorem dX8_number_54 : decode cX8_number 54 = .ok (.isub, 1) := by decide +kernel
theorem dX8_number_55 : decode cX8_number 55 = .ok (.istore_n 1, 1) := by decide +kernel
theorem dX8_number_56 : decode cX8_number 56 = .ok (.aload_n 0, 1) := by decide +kernel
theorem dX8_number_57 : decode cX8_number 57 = .ok (.dup, 1) := by decide +kernel
theorem dX8_number_58 : decode cX8_number 58 = .ok (.getfield 141, 3) := by decide +kernel
theorem dX8_number_61 : decode cX8_number 61 = .ok (.iconst 1, 1) := by decide +kernel
theorem dX8_number_62 : decode cX8_number 62 = .ok (.iadd, 1) := by decide +kernel
theorem dX8_number_63 : decode cX8_number 63 = .ok (.putfield 141, 3) := by decide +kernel
theorem dX8_number_66 : decode cX8_number 66 = .ok (.iload_n 1, 1) := by decide +kernel
theorem dX8_number_67 : decode cX8_number 67 = .ok (.ireturn, 1) := by decide +kernel
theorem dX8_order_0 : decode cX8_order 0 = .ok (.aload_n 0, 1) := by decide +kernel
theorem dX8_order_1 : decode cX8_order 1 = .ok (.getfield 141, 3) := by decide +kernel
theorem dX8_order_4 : decode cX8_order 4 = .ok (.aload_n 0, 1) := by decide +kernel
theorem dX8_order_5 : decode cX8_order 5 = .ok (.getfield 136, 3) := by decide +kernel
theorem dX8_order_8 : decode cX8_order 8 = .ok (.if_icmp .ge 15, 3) := by decide +kernel
theorem dX8_order_11 : decode cX8_order 11 = .ok (.aload_n 0, 1) := by decide +kernel
theorem dX8_order_12 : decode cX8_order 12 = .ok (.getfield 29, 3) := by decide +kernel
theorem dX8_order_15 : decode cX8_order 15 = .ok (.aload_n 0, 1) := by decide +kernel
theorem dX8_order_16 : decode cX8_order 16 = .ok (.getfield 141, 3) := by decide +kernel
theorem dX8_order_19 : decode cX8_order 19 = .ok (.iaload, 1) := by decide +kernel
theorem dX8_order_20 : decode cX8_order 20 = .ok (.goto 4, 3) := by decide +kernel
theorem dX8_order_23 : decode cX8_order 23 = .ok (.iconst 0, 1) := by decide +kernel
theorem dX8_order_24 : decode cX8_order 24 = .ok (.istore_n 2, 1) := by decide +kernel
theorem dX8_order_25 : decode cX8_order 25 = .ok (.iload_n 2, 1) := by decide +kernel
theorem dX8_order_26 : decode cX8_order 26 = .ok (.bipush 114, 2) := by decide +kernel
theorem dX8_order_28 : decode cX8_order 28 = .ok (.if_icmp .eq 24, 3) := by decide +kernel
theorem dX8_order_31 : decode cX8_order 31 = .ok (.iload_n 2, 1) := by decide +kernel
theorem dX8_order_32 : decode cX8_order 32 = .ok (.bipush 119, 2) := by decide +kernel
theorem dX8_order_34 : decode cX8_order 34 = .ok (.if_icmp .eq 18, 3) := by decide +kernel
theorem dX8_order_37 : decode cX8_order 37 = .ok (.iload_n 2, 1) := by decide +kernel
theorem dX8_order_38 : decode cX8_order 38 = .ok (.bipush 115, 2) := by decide +kernel
theorem dX8_order_40 : decode cX8_order 40 = .ok (.if_icmp .eq 12, 3) := by decide +kernel
theorem dX8_order_43 : decode cX8_order 43 = .ok (.iload_n 2, 1) := by decide +kernel
theorem dX8_order_44 : decode cX8_order 44 = .ok (.bipush 116, 2) := by decide +kernel
theorem dX8_order_46 : decode cX8_order 46 = .ok (.if_icmp .eq 6, 3) := by decide +kernel
theorem dX8_order_49 : decode cX8_order 49 = .ok (.bipush (-3), 2) := by decide +kernel
theorem dX8_order_51 : decode cX8_order 51 = .ok (.ireturn, 1) := by decide +kernel
theorem dX8_order_52 : decode cX8_order 52 = .ok (.aload_n 0, 1) := by decide +kernel
theorem dX8_order_53 : decode cX8_order 53 = .ok (.dup, 1) := by decide +kernel
theorem dX8_order_54 : decode cX8_order 54 = .ok (.getfield 141, 3) := by decide +kernel
theorem dX8_order_57 : decode cX8_order 57 = .ok (.iconst 1, 1) := by decide +kernel
theorem dX8_order_58 : decode cX8_order 58 = .ok (.iadd, 1) := by decide +kernel
theorem dX8_order_59 : decode cX8_order 59 = .ok (.putfield 141, 3) := by decide +kernel
theorem dX8_order_62 : decode cX8_order 62 = .ok (.aload_n 0, 1) := by decide +kernel
theorem dX8_order_63 : decode cX8_order 63 = .ok (.bipush 48, 2) := by decide +kernel
theorem dX8_order_65 : decode cX8_order 65 = .ok (.bipush 57, 2) := by decide +kernel
theorem dX8_order_67 : decode cX8_order 67 = .ok (.invokevirtual 144, 3) := by decide +kernel
theorem dX8_order_70 : decode cX8_order 70 = .ok (.ifCond .ne 6, 3) := by decide +kernel
theorem dX8_order_73 : decode cX8_order 73 = .ok (.bipush (-3), 2) := by decide +kernel
theorem dX8_order_75 : decode cX8_order 75 = .ok (.ireturn, 1) := by decide +kernel
theorem dX8_order_76 : decode cX8_order 76 = .ok (.aload_n 0, 1) := by decide +kernel
theorem dX8_order_77 : decode cX8_order 77 = .ok (.invokevirtual 148, 3) := by decide +kernel
theorem dX8_order_80 : decode cX8_order 80 = .ok (.istore_n 3, 1) := by decide +kernel
theorem dX8_order_81 : decode cX8_order 81 = .ok (.iconst 0, 1) := by decide +kernel
theorem dX8_order_82 : decode cX8_order 82 = .ok (.istore 4, 2) := by decide +kernel
theorem dX8_order_84 : decode cX8_order 84 = .ok (.iload_n 2, 1) := by decide +kernel
theorem dX8_order_85 : decode cX8_order 85 = .ok (.bipush 114, 2) := by decide +kernel
theorem dX8_order_87 : decode cX8_order 87 = .ok (.if_icmp .eq 9, 3) := by decide +kernel
theorem dX8_order_90 : decode cX8_order 90 = .ok (.iload_n 2, 1) := by decide +kernel
theorem dX8_order_91 : decode cX8_order 91 = .ok (.bipush 119, 2) := by decide +kernel
theorem dX8_order_93 : decode cX8_order 93 = .ok (.if_icmp .ne 7, 3) := by decide +kernel
theorem dX8_order_96 : decode cX8_order 96 = .ok (.iconst 1, 1) := by decide +kernel
theorem dX8_order_97 : decode cX8_order 97 = .ok (.goto 4, 3) := by decide +kernel
theorem dX8_order_100 : decode cX8_order 100 = .ok (.iconst 0, 1) := by decide +kernel
theorem dX8_order_101 : decode cX8_order 101 = .ok (.istore 5, 2) := by decide +kernel
theorem dX8_order_103 : decode cX8_order 103 = .ok (.iload 5, 2) := by decide +kernel
theorem dX8_order_105 : decode cX8_order 105 = .ok (.ifCond .eq 62, 3) := by decide +kernel
theorem dX8_order_108 : decode cX8_order 108 = .ok (.aload_n 0, 1) := by decide +kernel
theorem dX8_order_109 : decode cX8_order 109 = .ok (.bipush 43, 2) := by decide +kernel
theorem dX8_order_111 : decode cX8_order 111 = .ok (.bipush 43, 2) := by decide +kernel
theorem dX8_order_113 : decode cX8_order 113 = .ok (.invokevirtual 144, 3) := by decide +kernel
theorem dX8_order_116 : decode cX8_order 116 = .ok (.ifCond .eq 51, 3) := by decide +kernel
theorem dX8_order_119 : decode cX8_order 119 = .ok (.aload_n 0, 1) := by decide +kernel
theorem dX8_order_120 : decode cX8_order 120 = .ok (.dup, 1) := by decide +kernel
theorem dX8_order_121 : decode cX8_order 121 = .ok (.getfield 141, 3) := by decide +kernel
theorem dX8_order_124 : decode cX8_order 124 = .ok (.iconst 1, 1) := by decide +kernel
theorem dX8_order_125 : decode cX8_order 125 = .ok (.iadd, 1) := by decide +kernel
theorem dX8_order_126 : decode cX8_order 126 = .ok (.putfield 141, 3) := by decide +kernel
theorem dX8_order_129 : decode cX8_order 129 = .ok (.aload_n 0, 1) := by decide +kernel
theorem dX8_order_130 : decode cX8_order 130 = .ok (.bipush 48, 2) := by decide +kernel
theorem dX8_order_132 : decode cX8_order 132 = .ok (.bipush 57, 2) := by decide +kernel
theorem dX8_order_134 : decode cX8_order 134 = .ok (.invokevirtual 144, 3) := by decide +kernel
theorem dX8_order_137 : decode cX8_order 137 = .ok (.ifCond .ne 6, 3) := by decide +kernel
theorem dX8_order_140 : decode cX8_order 140 = .ok (.bipush (-3), 2) := by decide +kernel
theorem dX8_order_142 : decode cX8_order 142 = .ok (.ireturn, 1) := by decide +kernel
theorem dX8_order_143 : decode cX8_order 143 = .ok (.aload_n 0, 1) := by decide +kernel
theorem dX8_order_144 : decode cX8_order 144 = .ok (.getfield 29, 3) := by decide +kernel
theorem dX8_order_147 : decode cX8_order 147 = .ok (.aload_n 0, 1) := by decide +kernel
theorem dX8_order_148 : decode cX8_order 148 = .ok (.getfield 141, 3) := by decide +kernel
theorem dX8_order_151 : decode cX8_order 151 = .ok (.iaload, 1) := by decide +kernel
theorem dX8_order_152 : decode cX8_order 152 = .ok (.bipush 48, 2) := by decide +kernel
theorem dX8_order_154 : decode cX8_order 154 = .ok (.isub, 1) := by decide +kernel
theorem dX8_order_155 : decode cX8_order 155 = .ok (.istore 4, 2) := by decide +kernel
theorem dX8_order_157 : decode cX8_order 157 = .ok (.aload_n 0, 1) := by decide +kernel
theorem dX8_order_158 : decode cX8_order 158 = .ok (.dup, 1) := by decide +kernel
theorem dX8_order_159 : decode cX8_order 159 = .ok (.getfield 141, 3) := by decide +kernel
theorem dX8_order_162 : decode cX8_order 162 = .ok (.iconst 1, 1) := by decide +kernel
theorem dX8_order_163 : decode cX8_order 163 = .ok (.iadd, 1) := by decide +kernel
theorem dX8_order_164 : decode cX8_order 164 = .ok (.putfield 141, 3) := by decide +kernel
theorem dX8_order_167 : decode cX8_order 167 = .ok (.iload_n 1, 1) := by decide +kernel
theorem dX8_order_168 : decode cX8_order 168 = .ok (.ifCond .ne 5, 3) := by decide +kernel
theorem dX8_order_171 : decode cX8_order 171 = .ok (.iconst 0, 1) := by decide +kernel
theorem dX8_order_172 : decode cX8_order 172 = .ok (.ireturn, 1) := by decide +kernel
theorem dX8_order_173 : decode cX8_order 173 = .ok (.iload 5, 2) := by decide +kernel
theorem dX8_order_175 : decode cX8_order 175 = .ok (.ifCond .eq 26, 3) := by decide +kernel
theorem dX8_order_178 : decode cX8_order 178 = .ok (.aload_n 0, 1) := by decide +kernel
theorem dX8_order_179 : decode cX8_order 179 = .ok (.iload_n 2, 1) := by decide +kernel
theorem dX8_order_180 : decode cX8_order 180 = .ok (.bipush 119, 2) := by decide +kernel
theorem dX8_order_182 : decode cX8_order 182 = .ok (.if_icmp .ne 7, 3) := by decide +kernel
theorem dX8_order_185 : decode cX8_order 185 = .ok (.iconst 1, 1) := by decide +kernel
theorem dX8_order_186 : decode cX8_order 186 = .ok (.goto 4, 3) := by decide +kernel
theorem dX8_order_189 : decode cX8_order 189 = .ok (.iconst 0, 1) := by decide +kernel
theorem dX8_order_190 : decode cX8_order 190 = .ok (.iload_n 3, 1) := by decide +kernel
theorem dX8_order_191 : decode cX8_order 191 = .ok (.iconst 1, 1) := by decide +kernel
theorem dX8_order_192 : decode cX8_order 192 = .ok (.iload 4, 2) := by decide +kernel
theorem dX8_order_194 : decode cX8_order 194 = .ok (.iadd, 1) := by decide +kernel
theorem dX8_order_195 : decode cX8_order 195 = .ok (.invokevirtual 121, 3) := by decide +kernel
theorem dX8_order_198 : decode cX8_order 198 = .ok (.goto 22, 3) := by decide +kernel
theorem dX8_order_201 : decode cX8_order 201 = .ok (.iload_n 2, 1) := by decide +kernel
theorem dX8_order_202 : decode cX8_order 202 = .ok (.bipush 115, 2) := by decide +kernel
theorem dX8_order_204 : decode cX8_order 204 = .ok (.if_icmp .ne 11, 3) := by decide +kernel
theorem dX8_order_207 : decode cX8_order 207 = .ok (.aload_n 0, 1) := by decide +kernel
theorem dX8_order_208 : decode cX8_order 208 = .ok (.iload_n 3, 1) := by decide +kernel
theorem dX8_order_209 : decode cX8_order 209 = .ok (.invokevirtual 127, 3) := by decide +kernel
theorem dX8_order_212 : decode cX8_order 212 = .ok (.goto 8, 3) := by decide +kernel
theorem dX8_order_215 : decode cX8_order 215 = .ok (.aload_n 0, 1) := by decide +kernel
theorem dX8_order_216 : decode cX8_order 216 = .ok (.iload_n 3, 1) := by decide +kernel
theorem dX8_order_217 : decode cX8_order 217 = .ok (.invokevirtual 130, 3) := by decide +kernel
theorem dX8_order_220 : decode cX8_order 220 = .ok (.ireturn, 1) := by decide +kernel
theorem dX8_isWell_0 : decode cX8_isWell 0 = .ok (.aload_n 0, 1) := by decide +kernel
theorem dX8_isWell_1 : decode cX8_isWell 1 = .ok (.iconst 0, 1) := by decide +kernel
theorem dX8_isWell_2 : decode cX8_isWell 2 = .ok (.putfield 141, 3) := by decide +kernel
theorem dX8_isWell_5 : decode cX8_isWell 5 = .ok (.aload_n 0, 1) := by decide +kernel
theorem dX8_isWell_6 : decode cX8_isWell 6 = .ok (.iconst 0, 1) := by decide +kernel
theorem dX8_isWell_7 : decode cX8_isWell 7 = .ok (.invokevirtual 151, 3) := by decide +kernel
theorem dX8_isWell_10 : decode cX8_isWell 10 = .ok (.ifCond .ne 7, 3) := by decide +kernel
theorem dX8_isWell_13 : decode cX8_isWell 13 = .ok (.iconst 1, 1) := by decide +kernel
theorem dX8_isWell_14 : decode cX8_isWell 14 = .ok (.goto 4, 3) := by decide +kernel
theorem dX8_isWell_17 : decode cX8_isWell 17 = .ok (.iconst 0, 1) := by decide +kernel
theorem dX8_isWell_18 : decode cX8_isWell 18 = .ok (.istore_n 1, 1) := by decide +kernel
theorem dX8_isWell_19 : decode cX8_isWell 19 = .ok (.iload_n 1, 1) := by decide +kernel
theorem dX8_isWell_20 : decode cX8_isWell 20 = .ok (.ifCond .eq 62, 3) := by decide +kernel
theorem dX8_isWell_23 : decode cX8_isWell 23 = .ok (.aload_n 0, 1) := by decide +kernel
theorem dX8_isWell_24 : decode cX8_isWell 24 = .ok (.getfield 141, 3) := by decide +kernel
theorem dX8_isWell_27 : decode cX8_isWell 27 = .ok (.aload_n 0, 1) := by decide +kernel
theorem dX8_isWell_28 : decode cX8_isWell 28 = .ok (.getfield 136, 3) := by decide +kernel
theorem dX8_isWell_31 : decode cX8_isWell 31 = .ok (.if_icmp .ge 51, 3) := by decide +kernel
theorem dX8_isWell_34 : decode cX8_isWell 34 = .ok (.aload_n 0, 1) := by decide +kernel
theorem dX8_isWell_35 : decode cX8_isWell 35 = .ok (.bipush 59, 2) := by decide +kernel
theorem dX8_isWell_37 : decode cX8_isWell 37 = .ok (.bipush 59, 2) := by decide +kernel
theorem dX8_isWell_39 : decode cX8_isWell 39 = .ok (.invokevirtual 144, 3) := by decide +kernel
theorem dX8_isWell_42 : decode cX8_isWell 42 = .ok (.istore_n 1, 1) := by decide +kernel
theorem dX8_isWell_43 : decode cX8_isWell 43 = .ok (.aload_n 0, 1) := by decide +kernel
theorem dX8_isWell_44 : decode cX8_isWell 44 = .ok (.dup, 1) := by decide +kernel
theorem dX8_isWell_45 : decode cX8_isWell 45 = .ok (.getfield 141, 3) := by decide +kernel
theorem dX8_isWell_48 : decode cX8_isWell 48 = .ok (.iload_n 1, 1) := by decide +kernel
theorem dX8_isWell_49 : decode cX8_isWell 49 = .ok (.ifCond .eq 7, 3) := by decide +kernel
theorem dX8_isWell_52 : decode cX8_isWell 52 = .ok (.iconst 1, 1) := by decide +kernel
theorem dX8_isWell_53 : decode cX8_isWell 53 = .ok (.goto 4, 3) := by decide +kernel
theorem dX8_isWell_56 : decode cX8_isWell 56 = .ok (.iconst 0, 1) := by decide +kernel
theorem dX8_isWell_57 : decode cX8_isWell 57 = .ok (.iadd, 1) := by decide +kernel
theorem dX8_isWell_58 : decode cX8_isWell 58 = .ok (.putfield 141, 3) := by decide +kernel
theorem dX8_isWell_61 : decode cX8_isWell 61 = .ok (.iload_n 1, 1) := by decide +kernel
theorem dX8_isWell_62 : decode cX8_isWell 62 = .ok (.ifCond .eq 15, 3) := by decide +kernel
theorem dX8_isWell_65 : decode cX8_isWell 65 = .ok (.aload_n 0, 1) := by decide +kernel
theorem dX8_isWell_66 : decode cX8_isWell 66 = .ok (.iconst 0, 1) := by decide +kernel
theorem dX8_isWell_67 : decode cX8_isWell 67 = .ok (.invokevirtual 151, 3) := by decide +kernel
theorem dX8_isWell_70 : decode cX8_isWell 70 = .ok (.ifCond .ne 7, 3) := by decide +kernel
theorem dX8_isWell_73 : decode cX8_isWell 73 = .ok (.iconst 1, 1) := by decide +kernel
theorem dX8_isWell_74 : decode cX8_isWell 74 = .ok (.goto 4, 3) := by decide +kernel
theorem dX8_isWell_77 : decode cX8_isWell 77 = .ok (.iconst 0, 1) := by decide +kernel
theorem dX8_isWell_78 : decode cX8_isWell 78 = .ok (.istore_n 1, 1) := by decide +kernel
theorem dX8_isWell_79 : decode cX8_isWell 79 = .ok (.goto (-60), 3) := by decide +kernel
theorem dX8_isWell_82 : decode cX8_isWell 82 = .ok (.iload_n 1, 1) := by decide +kernel
theorem dX8_isWell_83 : decode cX8_isWell 83 = .ok (.ireturn, 1) := by decide +kernel
theorem dX8_fault_0 : decode cX8_fault 0 = .ok (.aload_n 0, 1) := by decide +kernel
theorem dX8_fault_1 : decode cX8_fault 1 = .ok (.invokevirtual 155, 3) := by decide +kernel
theorem dX8_fault_4 : decode cX8_fault 4 = .ok (.ifCond .eq 8, 3) := by decide +kernel
theorem dX8_fault_7 : decode cX8_fault 7 = .ok (.bipush (-6), 2) := by decide +kernel
theorem dX8_fault_9 : decode cX8_fault 9 = .ok (.goto 7, 3) := by decide +kernel
theorem dX8_fault_12 : decode cX8_fault 12 = .ok (.aload_n 0, 1) := by decide +kernel
theorem dX8_fault_13 : decode cX8_fault 13 = .ok (.getfield 141, 3) := by decide +kernel
theorem dX8_fault_16 : decode cX8_fault 16 = .ok (.ireturn, 1) := by decide +kernel
theorem dX8_carryOut_0 : decode cX8_carryOut 0 = .ok (.aload_n 0, 1) := by decide +kernel
theorem dX8_carryOut_1 : decode cX8_carryOut 1 = .ok (.invokevirtual 155, 3) := by decide +kernel
theorem dX8_carryOut_4 : decode cX8_carryOut 4 = .ok (.ifCond .ne 6, 3) := by decide +kernel
theorem dX8_carryOut_7 : decode cX8_carryOut 7 = .ok (.bipush (-3), 2) := by decide +kernel
theorem dX8_carryOut_9 : decode cX8_carryOut 9 = .ok (.ireturn, 1) := by decide +kernel
theorem dX8_carryOut_10 : decode cX8_carryOut 10 = .ok (.aload_n 0, 1) := by decide +kernel
theorem dX8_carryOut_11 : decode cX8_carryOut 11 = .ok (.invokevirtual 47, 3) := by decide +kernel
theorem dX8_carryOut_14 : decode cX8_carryOut 14 = .ok (.aload_n 0, 1) := by decide +kernel
theorem dX8_carryOut_15 : decode cX8_carryOut 15 = .ok (.iconst 0, 1) := by decide +kernel
theorem dX8_carryOut_16 : decode cX8_carryOut 16 = .ok (.putfield 141, 3) := by decide +kernel
theorem dX8_carryOut_19 : decode cX8_carryOut 19 = .ok (.iconst 0, 1) := by decide +kernel
theorem dX8_carryOut_20 : decode cX8_carryOut 20 = .ok (.istore_n 1, 1) := by decide +kernel
theorem dX8_carryOut_21 : decode cX8_carryOut 21 = .ok (.iconst 1, 1) := by decide +kernel
theorem dX8_carryOut_22 : decode cX8_carryOut 22 = .ok (.istore_n 2, 1) := by decide +kernel
theorem dX8_carryOut_23 : decode cX8_carryOut 23 = .ok (.iload_n 2, 1) := by decide +kernel
theorem dX8_carryOut_24 : decode cX8_carryOut 24 = .ok (.ifCond .eq 53, 3) := by decide +kernel
theorem dX8_carryOut_27 : decode cX8_carryOut 27 = .ok (.aload_n 0, 1) := by decide +kernel
theorem dX8_carryOut_28 : decode cX8_carryOut 28 = .ok (.getfield 141, 3) := by decide +kernel
theorem dX8_carryOut_31 : decode cX8_carryOut 31 = .ok (.aload_n 0, 1) := by decide +kernel
theorem dX8_carryOut_32 : decode cX8_carryOut 32 = .ok (.getfield 136, 3) := by decide +kernel
theorem dX8_carryOut_35 : decode cX8_carryOut 35 = .ok (.if_icmp .ge 42, 3) := by decide +kernel
theorem dX8_carryOut_38 : decode cX8_carryOut 38 = .ok (.aload_n 0, 1) := by decide +kernel
theorem dX8_carryOut_39 : decode cX8_carryOut 39 = .ok (.iconst 1, 1) := by decide +kernel
theorem dX8_carryOut_40 : decode cX8_carryOut 40 = .ok (.invokevirtual 151, 3) := by decide +kernel
theorem dX8_carryOut_43 : decode cX8_carryOut 43 = .ok (.ifCond .lt 7, 3) := by decide +kernel
theorem dX8_carryOut_46 : decode cX8_carryOut 46 = .ok (.iconst 1, 1) := by decide +kernel
theorem dX8_carryOut_47 : decode cX8_carryOut 47 = .ok (.goto 4, 3) := by decide +kernel
theorem dX8_carryOut_50 : decode cX8_carryOut 50 = .ok (.iconst 0, 1) := by decide +kernel
theorem dX8_carryOut_51 : decode cX8_carryOut 51 = .ok (.istore_n 2, 1) := by decide +kernel
theorem dX8_carryOut_52 : decode cX8_carryOut 52 = .ok (.iload_n 1, 1) := by decide +kernel
theorem dX8_carryOut_53 : decode cX8_carryOut 53 = .ok (.iload_n 2, 1) := by decide +kernel
theorem dX8_carryOut_54 : decode cX8_carryOut 54 = .ok (.ifCond .eq 7, 3) := by decide +kernel
theorem dX8_carryOut_57 : decode cX8_carryOut 57 = .ok (.iconst 1, 1) := by decide +kernel
theorem dX8_carryOut_58 : decode cX8_carryOut 58 = .ok (.goto 4, 3) := by decide +kernel
theorem dX8_carryOut_61 : decode cX8_carryOut 61 = .ok (.iconst 0, 1) := by decide +kernel
theorem dX8_carryOut_62 : decode cX8_carryOut 62 = .ok (.iadd, 1) := by decide +kernel
theorem dX8_carryOut_63 : decode cX8_carryOut 63 = .ok (.istore_n 1, 1) := by decide +kernel
theorem dX8_carryOut_64 : decode cX8_carryOut 64 = .ok (.aload_n 0, 1) := by decide +kernel
theorem dX8_carryOut_65 : decode cX8_carryOut 65 = .ok (.dup, 1) := by decide +kernel
theorem dX8_carryOut_66 : decode cX8_carryOut 66 = .ok (.getfield 141, 3) := by decide +kernel
theorem dX8_carryOut_69 : decode cX8_carryOut 69 = .ok (.iconst 1, 1) := by decide +kernel
theorem dX8_carryOut_70 : decode cX8_carryOut 70 = .ok (.iadd, 1) := by decide +kernel
theorem dX8_carryOut_71 : decode cX8_carryOut 71 = .ok (.putfield 141, 3) := by decide +kernel
theorem dX8_carryOut_74 : decode cX8_carryOut 74 = .ok (.goto (-51), 3) := by decide +kernel
theorem dX8_carryOut_77 : decode cX8_carryOut 77 = .ok (.aload_n 0, 1) := by decide +kernel
theorem dX8_carryOut_78 : decode cX8_carryOut 78 = .ok (.iconst 0, 1) := by decide +kernel
theorem dX8_carryOut_79 : decode cX8_carryOut 79 = .ok (.putfield 136, 3) := by decide +kernel
theorem dX8_carryOut_82 : decode cX8_carryOut 82 = .ok (.aload_n 0, 1) := by decide +kernel
theorem dX8_carryOut_83 : decode cX8_carryOut 83 = .ok (.iload_n 1, 1) := by decide +kernel
theorem dX8_carryOut_84 : decode cX8_carryOut 84 = .ok (.invokevirtual 50, 3) := by decide +kernel
theorem dX8_carryOut_87 : decode cX8_carryOut 87 = .ok (.ireturn, 1) := by decide +kernel
