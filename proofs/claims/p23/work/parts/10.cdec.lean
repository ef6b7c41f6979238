theorem dX0_init_0 : decode cX0_init 0 = .ok (.aload_n 0, 1) := by decide +kernel
theorem dX0_init_1 : decode cX0_init 1 = .ok (.invokespecial 3, 3) := by decide +kernel
theorem dX0_init_4 : decode cX0_init 4 = .ok (.aload_n 0, 1) := by decide +kernel
theorem dX0_init_5 : decode cX0_init 5 = .ok (.getstatic 9, 3) := by decide +kernel
theorem dX0_init_8 : decode cX0_init 8 = .ok (.arraylength, 1) := by decide +kernel
theorem dX0_init_9 : decode cX0_init 9 = .ok (.newarray .int, 2) := by decide +kernel
theorem dX0_init_11 : decode cX0_init 11 = .ok (.putfield 13, 3) := by decide +kernel
theorem dX0_init_14 : decode cX0_init 14 = .ok (.aload_n 0, 1) := by decide +kernel
theorem dX0_init_15 : decode cX0_init 15 = .ok (.new 18, 3) := by decide +kernel
theorem dX0_init_18 : decode cX0_init 18 = .ok (.dup, 1) := by decide +kernel
theorem dX0_init_19 : decode cX0_init 19 = .ok (.invokespecial 20, 3) := by decide +kernel
theorem dX0_init_22 : decode cX0_init 22 = .ok (.putfield 21, 3) := by decide +kernel
theorem dX0_init_25 : decode cX0_init 25 = .ok (.getstatic 9, 3) := by decide +kernel
theorem dX0_init_28 : decode cX0_init 28 = .ok (.aload_n 0, 1) := by decide +kernel
theorem dX0_init_29 : decode cX0_init 29 = .ok (.getfield 13, 3) := by decide +kernel
theorem dX0_init_32 : decode cX0_init 32 = .ok (.invokestatic 25, 3) := by decide +kernel
theorem dX0_init_35 : decode cX0_init 35 = .ok (.aconst_null, 1) := by decide +kernel
theorem dX0_init_36 : decode cX0_init 36 = .ok (.astore_n 1, 1) := by decide +kernel
theorem dX0_init_37 : decode cX0_init 37 = .ok (.iconst 0, 1) := by decide +kernel
theorem dX0_init_38 : decode cX0_init 38 = .ok (.istore_n 2, 1) := by decide +kernel
theorem dX0_init_39 : decode cX0_init 39 = .ok (.iload_n 2, 1) := by decide +kernel
theorem dX0_init_40 : decode cX0_init 40 = .ok (.bipush 30, 2) := by decide +kernel
theorem dX0_init_42 : decode cX0_init 42 = .ok (.if_icmp .ge 18, 3) := by decide +kernel
theorem dX0_init_45 : decode cX0_init 45 = .ok (.new 29, 3) := by decide +kernel
theorem dX0_init_48 : decode cX0_init 48 = .ok (.dup, 1) := by decide +kernel
theorem dX0_init_49 : decode cX0_init 49 = .ok (.aload_n 1, 1) := by decide +kernel
theorem dX0_init_50 : decode cX0_init 50 = .ok (.invokespecial 31, 3) := by decide +kernel
theorem dX0_init_53 : decode cX0_init 53 = .ok (.astore_n 1, 1) := by decide +kernel
theorem dX0_init_54 : decode cX0_init 54 = .ok (.iinc 2 1, 3) := by decide +kernel
theorem dX0_init_57 : decode cX0_init 57 = .ok (.goto (-18), 3) := by decide +kernel
theorem dX0_init_60 : decode cX0_init 60 = .ok (.aload_n 0, 1) := by decide +kernel
theorem dX0_init_61 : decode cX0_init 61 = .ok (.aload_n 1, 1) := by decide +kernel
theorem dX0_init_62 : decode cX0_init 62 = .ok (.putfield 34, 3) := by decide +kernel
theorem dX0_init_65 : decode cX0_init 65 = .ok (.return_, 1) := by decide +kernel
theorem dX0_copyFrom_0 : decode cX0_copyFrom 0 = .ok (.aload_n 1, 1) := by decide +kernel
theorem dX0_copyFrom_1 : decode cX0_copyFrom 1 = .ok (.getfield 13, 3) := by decide +kernel
theorem dX0_copyFrom_4 : decode cX0_copyFrom 4 = .ok (.aload_n 0, 1) := by decide +kernel
theorem dX0_copyFrom_5 : decode cX0_copyFrom 5 = .ok (.getfield 13, 3) := by decide +kernel
theorem dX0_copyFrom_8 : decode cX0_copyFrom 8 = .ok (.invokestatic 25, 3) := by decide +kernel
theorem dX0_copyFrom_11 : decode cX0_copyFrom 11 = .ok (.aload_n 1, 1) := by decide +kernel
theorem dX0_copyFrom_12 : decode cX0_copyFrom 12 = .ok (.getfield 34, 3) := by decide +kernel
theorem dX0_copyFrom_15 : decode cX0_copyFrom 15 = .ok (.astore_n 2, 1) := by decide +kernel
theorem dX0_copyFrom_16 : decode cX0_copyFrom 16 = .ok (.aload_n 0, 1) := by decide +kernel
theorem dX0_copyFrom_17 : decode cX0_copyFrom 17 = .ok (.getfield 34, 3) := by decide +kernel
theorem dX0_copyFrom_20 : decode cX0_copyFrom 20 = .ok (.astore_n 3, 1) := by decide +kernel
theorem dX0_copyFrom_21 : decode cX0_copyFrom 21 = .ok (.aload_n 3, 1) := by decide +kernel
theorem dX0_copyFrom_22 : decode cX0_copyFrom 22 = .ok (.ifnull 25, 3) := by decide +kernel
theorem dX0_copyFrom_25 : decode cX0_copyFrom 25 = .ok (.aload_n 2, 1) := by decide +kernel
theorem dX0_copyFrom_26 : decode cX0_copyFrom 26 = .ok (.ifnull 21, 3) := by decide +kernel
theorem dX0_copyFrom_29 : decode cX0_copyFrom 29 = .ok (.aload_n 3, 1) := by decide +kernel
theorem dX0_copyFrom_30 : decode cX0_copyFrom 30 = .ok (.aload_n 2, 1) := by decide +kernel
theorem dX0_copyFrom_31 : decode cX0_copyFrom 31 = .ok (.invokevirtual 38, 3) := by decide +kernel
theorem dX0_copyFrom_34 : decode cX0_copyFrom 34 = .ok (.aload_n 2, 1) := by decide +kernel
theorem dX0_copyFrom_35 : decode cX0_copyFrom 35 = .ok (.getfield 41, 3) := by decide +kernel
theorem dX0_copyFrom_38 : decode cX0_copyFrom 38 = .ok (.astore_n 2, 1) := by decide +kernel
theorem dX0_copyFrom_39 : decode cX0_copyFrom 39 = .ok (.aload_n 3, 1) := by decide +kernel
theorem dX0_copyFrom_40 : decode cX0_copyFrom 40 = .ok (.getfield 41, 3) := by decide +kernel
theorem dX0_copyFrom_43 : decode cX0_copyFrom 43 = .ok (.astore_n 3, 1) := by decide +kernel
theorem dX0_copyFrom_44 : decode cX0_copyFrom 44 = .ok (.goto (-23), 3) := by decide +kernel
theorem dX0_copyFrom_47 : decode cX0_copyFrom 47 = .ok (.aload_n 0, 1) := by decide +kernel
theorem dX0_copyFrom_48 : decode cX0_copyFrom 48 = .ok (.getfield 21, 3) := by decide +kernel
theorem dX0_copyFrom_51 : decode cX0_copyFrom 51 = .ok (.aload_n 1, 1) := by decide +kernel
theorem dX0_copyFrom_52 : decode cX0_copyFrom 52 = .ok (.getfield 21, 3) := by decide +kernel
theorem dX0_copyFrom_55 : decode cX0_copyFrom 55 = .ok (.invokevirtual 44, 3) := by decide +kernel
theorem dX0_copyFrom_58 : decode cX0_copyFrom 58 = .ok (.aload_n 0, 1) := by decide +kernel
theorem dX0_copyFrom_59 : decode cX0_copyFrom 59 = .ok (.aload_n 1, 1) := by decide +kernel
theorem dX0_copyFrom_60 : decode cX0_copyFrom 60 = .ok (.getfield 47, 3) := by decide +kernel
theorem dX0_copyFrom_63 : decode cX0_copyFrom 63 = .ok (.putfield 47, 3) := by decide +kernel
theorem dX0_copyFrom_66 : decode cX0_copyFrom 66 = .ok (.aload_n 0, 1) := by decide +kernel
theorem dX0_copyFrom_67 : decode cX0_copyFrom 67 = .ok (.aload_n 1, 1) := by decide +kernel
theorem dX0_copyFrom_68 : decode cX0_copyFrom 68 = .ok (.getfield 51, 3) := by decide +kernel
theorem dX0_copyFrom_71 : decode cX0_copyFrom 71 = .ok (.putfield 51, 3) := by decide +kernel
theorem dX0_copyFrom_74 : decode cX0_copyFrom 74 = .ok (.aload_n 0, 1) := by decide +kernel
theorem dX0_copyFrom_75 : decode cX0_copyFrom 75 = .ok (.aload_n 1, 1) := by decide +kernel
theorem dX0_copyFrom_76 : decode cX0_copyFrom 76 = .ok (.getfield 54, 3) := by decide +kernel
theorem dX0_copyFrom_79 : decode cX0_copyFrom 79 = .ok (.putfield 54, 3) := by decide +kernel
theorem dX0_copyFrom_82 : decode cX0_copyFrom 82 = .ok (.aload_n 0, 1) := by decide +kernel
theorem dX0_copyFrom_83 : decode cX0_copyFrom 83 = .ok (.aload_n 1, 1) := by decide +kernel
theorem dX0_copyFrom_84 : decode cX0_copyFrom 84 = .ok (.getfield 57, 3) := by decide +kernel
theorem dX0_copyFrom_87 : decode cX0_copyFrom 87 = .ok (.putfield 57, 3) := by decide +kernel
theorem dX0_copyFrom_90 : decode cX0_copyFrom 90 = .ok (.aload_n 0, 1) := by decide +kernel
theorem dX0_copyFrom_91 : decode cX0_copyFrom 91 = .ok (.aload_n 1, 1) := by decide +kernel
theorem dX0_copyFrom_92 : decode cX0_copyFrom 92 = .ok (.getfield 60, 3) := by decide +kernel
theorem dX0_copyFrom_95 : decode cX0_copyFrom 95 = .ok (.putfield 60, 3) := by decide +kernel
theorem dX0_copyFrom_98 : decode cX0_copyFrom 98 = .ok (.aload_n 0, 1) := by decide +kernel
theorem dX0_copyFrom_99 : decode cX0_copyFrom 99 = .ok (.aload_n 1, 1) := by decide +kernel
theorem dX0_copyFrom_100 : decode cX0_copyFrom 100 = .ok (.getfield 63, 3) := by decide +kernel
theorem dX0_copyFrom_103 : decode cX0_copyFrom 103 = .ok (.putfield 63, 3) := by decide +kernel
theorem dX0_copyFrom_106 : decode cX0_copyFrom 106 = .ok (.aload_n 0, 1) := by decide +kernel
theorem dX0_copyFrom_107 : decode cX0_copyFrom 107 = .ok (.aload_n 1, 1) := by decide +kernel
theorem dX0_copyFrom_108 : decode cX0_copyFrom 108 = .ok (.getfield 66, 3) := by decide +kernel
theorem dX0_copyFrom_111 : decode cX0_copyFrom 111 = .ok (.putfield 66, 3) := by decide +kernel
theorem dX0_copyFrom_114 : decode cX0_copyFrom 114 = .ok (.aload_n 0, 1) := by decide +kernel
theorem dX0_copyFrom_115 : decode cX0_copyFrom 115 = .ok (.aload_n 1, 1) := by decide +kernel
theorem dX0_copyFrom_116 : decode cX0_copyFrom 116 = .ok (.getfield 69, 3) := by decide +kernel
theorem dX0_copyFrom_119 : decode cX0_copyFrom 119 = .ok (.putfield 69, 3) := by decide +kernel
theorem dX0_copyFrom_122 : decode cX0_copyFrom 122 = .ok (.aload_n 0, 1) := by decide +kernel
theorem dX0_copyFrom_123 : decode cX0_copyFrom 123 = .ok (.aload_n 1, 1) := by decide +kernel
theorem dX0_copyFrom_124 : decode cX0_copyFrom 124 = .ok (.getfield 72, 3) := by decide +kernel
theorem dX0_copyFrom_127 : decode cX0_copyFrom 127 = .ok (.putfield 72, 3) := by decide +kernel
theorem dX0_copyFrom_130 : decode cX0_copyFrom 130 = .ok (.aload_n 0, 1) := by decide +kernel
theorem dX0_copyFrom_131 : decode cX0_copyFrom 131 = .ok (.aload_n 1, 1) := by decide +kernel
theorem dX0_copyFrom_132 : decode cX0_copyFrom 132 = .ok (.getfield 75, 3) := by decide +kernel
theorem dX0_copyFrom_135 : decode cX0_copyFrom 135 = .ok (.putfield 75, 3) := by decide +kernel
theorem dX0_copyFrom_138 : decode cX0_copyFrom 138 = .ok (.aload_n 0, 1) := by decide +kernel
theorem dX0_copyFrom_139 : decode cX0_copyFrom 139 = .ok (.aload_n 1, 1) := by decide +kernel
theorem dX0_copyFrom_140 : decode cX0_copyFrom 140 = .ok (.getfield 78, 3) := by decide +kernel
theorem dX0_copyFrom_143 : decode cX0_copyFrom 143 = .ok (.putfield 78, 3) := by decide +kernel
theorem dX0_copyFrom_146 : decode cX0_copyFrom 146 = .ok (.return_, 1) := by decide +kernel
theorem dX0_adjust_0 : decode cX0_adjust 0 = .ok (.aload_n 0, 1) := by decide +kernel
theorem dX0_adjust_1 : decode cX0_adjust 1 = .ok (.getfield 13, 3) := by decide +kernel
theorem dX0_adjust_4 : decode cX0_adjust 4 = .ok (.iload_n 1, 1) := by decide +kernel
theorem dX0_adjust_5 : decode cX0_adjust 5 = .ok (.invokestatic 81, 3) := by decide +kernel
theorem dX0_adjust_8 : decode cX0_adjust 8 = .ok (.ifCond .ne 6, 3) := by decide +kernel
theorem dX0_adjust_11 : decode cX0_adjust 11 = .ok (.bipush (-2), 2) := by decide +kernel
theorem dX0_adjust_13 : decode cX0_adjust 13 = .ok (.ireturn, 1) := by decide +kernel
theorem dX0_adjust_14 : decode cX0_adjust 14 = .ok (.iload_n 2, 1) := by decide +kernel
theorem dX0_adjust_15 : decode cX0_adjust 15 = .ok (.getstatic 85, 3) := by decide +kernel
theorem dX0_adjust_18 : decode cX0_adjust 18 = .ok (.iload_n 1, 1) := by decide +kernel
theorem dX0_adjust_19 : decode cX0_adjust 19 = .ok (.invokestatic 88, 3) := by decide +kernel
theorem dX0_adjust_22 : decode cX0_adjust 22 = .ok (.if_icmp .lt 14, 3) := by decide +kernel
theorem dX0_adjust_25 : decode cX0_adjust 25 = .ok (.iload_n 2, 1) := by decide +kernel
theorem dX0_adjust_26 : decode cX0_adjust 26 = .ok (.getstatic 92, 3) := by decide +kernel
theorem dX0_adjust_29 : decode cX0_adjust 29 = .ok (.iload_n 1, 1) := by decide +kernel
theorem dX0_adjust_30 : decode cX0_adjust 30 = .ok (.invokestatic 88, 3) := by decide +kernel
theorem dX0_adjust_33 : decode cX0_adjust 33 = .ok (.if_icmp .le 6, 3) := by decide +kernel
theorem dX0_adjust_36 : decode cX0_adjust 36 = .ok (.bipush (-2), 2) := by decide +kernel
theorem dX0_adjust_38 : decode cX0_adjust 38 = .ok (.ireturn, 1) := by decide +kernel
theorem dX0_adjust_39 : decode cX0_adjust 39 = .ok (.aload_n 0, 1) := by decide +kernel
theorem dX0_adjust_40 : decode cX0_adjust 40 = .ok (.getfield 13, 3) := by decide +kernel
theorem dX0_adjust_43 : decode cX0_adjust 43 = .ok (.iload_n 1, 1) := by decide +kernel
theorem dX0_adjust_44 : decode cX0_adjust 44 = .ok (.iaload, 1) := by decide +kernel
theorem dX0_adjust_45 : decode cX0_adjust 45 = .ok (.istore_n 3, 1) := by decide +kernel
theorem dX0_adjust_46 : decode cX0_adjust 46 = .ok (.aload_n 0, 1) := by decide +kernel
theorem dX0_adjust_47 : decode cX0_adjust 47 = .ok (.getfield 13, 3) := by decide +kernel
theorem dX0_adjust_50 : decode cX0_adjust 50 = .ok (.iload_n 1, 1) := by decide +kernel
theorem dX0_adjust_51 : decode cX0_adjust 51 = .ok (.iload_n 2, 1) := by decide +kernel
theorem dX0_adjust_52 : decode cX0_adjust 52 = .ok (.iastore, 1) := by decide +kernel
theorem dX0_adjust_53 : decode cX0_adjust 53 = .ok (.iload_n 3, 1) := by decide +kernel
theorem dX0_adjust_54 : decode cX0_adjust 54 = .ok (.ireturn, 1) := by decide +kernel
theorem dX0_accept_0 : decode cX0_accept 0 = .ok (.iload_n 1, 1) := by decide +kernel
theorem dX0_accept_1 : decode cX0_accept 1 = .ok (.iload_n 2, 1) := by decide +kernel
theorem dX0_accept_2 : decode cX0_accept 2 = .ok (.iload_n 3, 1) := by decide +kernel
theorem dX0_accept_3 : decode cX0_accept 3 = .ok (.invokestatic 95, 3) := by decide +kernel
theorem dX0_accept_6 : decode cX0_accept 6 = .ok (.ifCond .ne 6, 3) := by decide +kernel
theorem dX0_accept_9 : decode cX0_accept 9 = .ok (.bipush (-2), 2) := by decide +kernel
theorem dX0_accept_11 : decode cX0_accept 11 = .ok (.ireturn, 1) := by decide +kernel
theorem dX0_accept_12 : decode cX0_accept 12 = .ok (.aload_n 0, 1) := by decide +kernel
theorem dX0_accept_13 : decode cX0_accept 13 = .ok (.iload_n 1, 1) := by decide +kernel
theorem dX0_accept_14 : decode cX0_accept 14 = .ok (.iload_n 2, 1) := by decide +kernel
theorem dX0_accept_15 : decode cX0_accept 15 = .ok (.iload_n 3, 1) := by decide +kernel
theorem dX0_accept_16 : decode cX0_accept 16 = .ok (.invokevirtual 99, 3) := by decide +kernel
theorem dX0_accept_19 : decode cX0_accept 19 = .ok (.astore 4, 2) := by decide +kernel
theorem dX0_accept_21 : decode cX0_accept 21 = .ok (.aload 4, 2) := by decide +kernel
theorem dX0_accept_23 : decode cX0_accept 23 = .ok (.ifnull 31, 3) := by decide +kernel
theorem dX0_accept_26 : decode cX0_accept 26 = .ok (.aload 4, 2) := by decide +kernel
theorem dX0_accept_28 : decode cX0_accept 28 = .ok (.dup, 1) := by decide +kernel
theorem dX0_accept_29 : decode cX0_accept 29 = .ok (.getfield 103, 3) := by decide +kernel
theorem dX0_accept_32 : decode cX0_accept 32 = .ok (.iload_n 3, 1) := by decide +kernel
theorem dX0_accept_33 : decode cX0_accept 33 = .ok (.iadd, 1) := by decide +kernel
theorem dX0_accept_34 : decode cX0_accept 34 = .ok (.putfield 103, 3) := by decide +kernel
theorem dX0_accept_37 : decode cX0_accept 37 = .ok (.aload 4, 2) := by decide +kernel
theorem dX0_accept_39 : decode cX0_accept 39 = .ok (.dup, 1) := by decide +kernel
theorem dX0_accept_40 : decode cX0_accept 40 = .ok (.getfield 106, 3) := by decide +kernel
theorem dX0_accept_43 : decode cX0_accept 43 = .ok (.iconst 1, 1) := by decide +kernel
theorem dX0_accept_44 : decode cX0_accept 44 = .ok (.iadd, 1) := by decide +kernel
theorem dX0_accept_45 : decode cX0_accept 45 = .ok (.putfield 106, 3) := by decide +kernel
theorem dX0_accept_48 : decode cX0_accept 48 = .ok (.aload 4, 2) := by decide +kernel
theorem dX0_accept_50 : decode cX0_accept 50 = .ok (.getfield 109, 3) := by decide +kernel
theorem dX0_accept_53 : decode cX0_accept 53 = .ok (.ireturn, 1) := by decide +kernel
theorem dX0_accept_54 : decode cX0_accept 54 = .ok (.aload_n 0, 1) := by decide +kernel
theorem dX0_accept_55 : decode cX0_accept 55 = .ok (.invokevirtual 112, 3) := by decide +kernel
theorem dX0_accept_58 : decode cX0_accept 58 = .ok (.astore 5, 2) := by decide +kernel
theorem dX0_accept_60 : decode cX0_accept 60 = .ok (.aload 5, 2) := by decide +kernel
theorem dX0_accept_62 : decode cX0_accept 62 = .ok (.ifnonnull 6, 3) := by decide +kernel
theorem dX0_accept_65 : decode cX0_accept 65 = .ok (.bipush (-4), 2) := by decide +kernel
theorem dX0_accept_67 : decode cX0_accept 67 = .ok (.ireturn, 1) := by decide +kernel
theorem dX0_accept_68 : decode cX0_accept 68 = .ok (.aload 5, 2) := by decide +kernel
theorem dX0_accept_70 : decode cX0_accept 70 = .ok (.iconst 1, 1) := by decide +kernel
theorem dX0_accept_71 : decode cX0_accept 71 = .ok (.putfield 116, 3) := by decide +kernel
theorem dX0_accept_74 : decode cX0_accept 74 = .ok (.aload 5, 2) := by decide +kernel
theorem dX0_accept_76 : decode cX0_accept 76 = .ok (.aload_n 0, 1) := by decide +kernel
theorem dX0_accept_77 : decode cX0_accept 77 = .ok (.getfield 54, 3) := by decide +kernel
theorem dX0_accept_80 : decode cX0_accept 80 = .ok (.putfield 109, 3) := by decide +kernel
theorem dX0_accept_83 : decode cX0_accept 83 = .ok (.aload 5, 2) := by decide +kernel
theorem dX0_accept_85 : decode cX0_accept 85 = .ok (.iload_n 1, 1) := by decide +kernel
theorem dX0_accept_86 : decode cX0_accept 86 = .ok (.putfield 120, 3) := by decide +kernel
theorem dX0_accept_89 : decode cX0_accept 89 = .ok (.aload 5, 2) := by decide +kernel
theorem dX0_accept_91 : decode cX0_accept 91 = .ok (.iload_n 2, 1) := by decide +kernel
theorem dX0_accept_92 : decode cX0_accept 92 = .ok (.putfield 123, 3) := by decide +kernel
theorem dX0_accept_95 : decode cX0_accept 95 = .ok (.aload 5, 2) := by decide +kernel
theorem dX0_accept_97 : decode cX0_accept 97 = .ok (.iload_n 3, 1) := by decide +kernel
theorem dX0_accept_98 : decode cX0_accept 98 = .ok (.putfield 103, 3) := by decide +kernel
theorem dX0_accept_101 : decode cX0_accept 101 = .ok (.aload 5, 2) := by decide +kernel
theorem dX0_accept_103 : decode cX0_accept 103 = .ok (.aload_n 0, 1) := by decide +kernel
theorem dX0_accept_104 : decode cX0_accept 104 = .ok (.getfield 57, 3) := by decide +kernel
theorem dX0_accept_107 : decode cX0_accept 107 = .ok (.putfield 126, 3) := by decide +kernel
theorem dX0_accept_110 : decode cX0_accept 110 = .ok (.aload 5, 2) := by decide +kernel
theorem dX0_accept_112 : decode cX0_accept 112 = .ok (.iconst 0, 1) := by decide +kernel
theorem dX0_accept_113 : decode cX0_accept 113 = .ok (.putfield 106, 3) := by decide +kernel
theorem dX0_accept_116 : decode cX0_accept 116 = .ok (.aload_n 0, 1) := by decide +kernel
theorem dX0_accept_117 : decode cX0_accept 117 = .ok (.dup, 1) := by decide +kernel
theorem dX0_accept_118 : decode cX0_accept 118 = .ok (.getfield 54, 3) := by decide +kernel
theorem dX0_accept_121 : decode cX0_accept 121 = .ok (.iconst 1, 1) := by decide +kernel
theorem dX0_accept_122 : decode cX0_accept 122 = .ok (.iadd, 1) := by decide +kernel
theorem dX0_accept_123 : decode cX0_accept 123 = .ok (.putfield 54, 3) := by decide +kernel
theorem dX0_accept_126 : decode cX0_accept 126 = .ok (.aload_n 0, 1) := by decide +kernel
theorem dX0_accept_127 : decode cX0_accept 127 = .ok (.iload_n 1, 1) := by decide +kernel
theorem dX0_accept_128 : decode cX0_accept 128 = .ok (.iconst 1, 1) := by decide +kernel
theorem dX0_accept_129 : decode cX0_accept 129 = .ok (.invokevirtual 129, 3) := by decide +kernel
theorem dX0_accept_132 : decode cX0_accept 132 = .ok (.aload 5, 2) := by decide +kernel
theorem dX0_accept_134 : decode cX0_accept 134 = .ok (.getfield 109, 3) := by decide +kernel
theorem dX0_accept_137 : decode cX0_accept 137 = .ok (.ireturn, 1) := by decide +kernel
theorem dX0_tearUp_0 : decode cX0_tearUp 0 = .ok (.aload_n 0, 1) := by decide +kernel
theorem dX0_tearUp_1 : decode cX0_tearUp 1 = .ok (.iload_n 1, 1) := by decide +kernel
theorem dX0_tearUp_2 : decode cX0_tearUp 2 = .ok (.invokevirtual 133, 3) := by decide +kernel
theorem dX0_tearUp_5 : decode cX0_tearUp 5 = .ok (.astore_n 2, 1) := by decide +kernel
theorem dX0_tearUp_6 : decode cX0_tearUp 6 = .ok (.aload_n 2, 1) := by decide +kernel
theorem dX0_tearUp_7 : decode cX0_tearUp 7 = .ok (.ifnonnull 5, 3) := by decide +kernel
theorem dX0_tearUp_10 : decode cX0_tearUp 10 = .ok (.iconst (-1), 1) := by decide +kernel
theorem dX0_tearUp_11 : decode cX0_tearUp 11 = .ok (.ireturn, 1) := by decide +kernel
theorem dX0_tearUp_12 : decode cX0_tearUp 12 = .ok (.aload_n 0, 1) := by decide +kernel
theorem dX0_tearUp_13 : decode cX0_tearUp 13 = .ok (.aload_n 2, 1) := by decide +kernel
theorem dX0_tearUp_14 : decode cX0_tearUp 14 = .ok (.invokevirtual 137, 3) := by decide +kernel
theorem dX0_tearUp_17 : decode cX0_tearUp 17 = .ok (.aload_n 0, 1) := by decide +kernel
theorem dX0_tearUp_18 : decode cX0_tearUp 18 = .ok (.aload_n 2, 1) := by decide +kernel
theorem dX0_tearUp_19 : decode cX0_tearUp 19 = .ok (.invokevirtual 140, 3) := by decide +kernel
theorem dX0_tearUp_22 : decode cX0_tearUp 22 = .ok (.ireturn, 1) := by decide +kernel
theorem dX0_stand_0 : decode cX0_stand 0 = .ok (.iload_n 1, 1) := by decide +kernel
theorem dX0_stand_1 : decode cX0_stand 1 = .ok (.iconst 1, 1) := by decide +kernel
theorem dX0_stand_2 : decode cX0_stand 2 = .ok (.if_icmp .lt 10, 3) := by decide +kernel
theorem dX0_stand_5 : decode cX0_stand 5 = .ok (.iload_n 1, 1) := by decide +kernel
theorem dX0_stand_6 : decode cX0_stand 6 = .ok (.sipush 999, 3) := by decide +kernel
theorem dX0_stand_9 : decode cX0_stand 9 = .ok (.if_icmp .le 6, 3) := by decide +kernel
theorem dX0_stand_12 : decode cX0_stand 12 = .ok (.bipush (-2), 2) := by decide +kernel
theorem dX0_stand_14 : decode cX0_stand 14 = .ok (.ireturn, 1) := by decide +kernel
theorem dX0_stand_15 : decode cX0_stand 15 = .ok (.aload_n 0, 1) := by decide +kernel
theorem dX0_stand_16 : decode cX0_stand 16 = .ok (.getfield 57, 3) := by decide +kernel
theorem dX0_stand_19 : decode cX0_stand 19 = .ok (.iload_n 1, 1) := by decide +kernel
theorem dX0_stand_20 : decode cX0_stand 20 = .ok (.iadd, 1) := by decide +kernel
theorem dX0_stand_21 : decode cX0_stand 21 = .ok (.ldc 144, 2) := by decide +kernel
theorem dX0_stand_23 : decode cX0_stand 23 = .ok (.if_icmp .le 6, 3) := by decide +kernel
theorem dX0_stand_26 : decode cX0_stand 26 = .ok (.bipush (-5), 2) := by decide +kernel
theorem dX0_stand_28 : decode cX0_stand 28 = .ok (.ireturn, 1) := by decide +kernel
theorem dX0_stand_29 : decode cX0_stand 29 = .ok (.aload_n 0, 1) := by decide +kernel
theorem dX0_stand_30 : decode cX0_stand 30 = .ok (.dup, 1) := by decide +kernel
theorem dX0_stand_31 : decode cX0_stand 31 = .ok (.getfield 57, 3) := by decide +kernel
theorem dX0_stand_34 : decode cX0_stand 34 = .ok (.iload_n 1, 1) := by decide +kernel
theorem dX0_stand_35 : decode cX0_stand 35 = .ok (.iadd, 1) := by decide +kernel
theorem dX0_stand_36 : decode cX0_stand 36 = .ok (.putfield 57, 3) := by decide +kernel
theorem dX0_stand_39 : decode cX0_stand 39 = .ok (.aload_n 0, 1) := by decide +kernel
theorem dX0_stand_40 : decode cX0_stand 40 = .ok (.getfield 57, 3) := by decide +kernel
theorem dX0_stand_43 : decode cX0_stand 43 = .ok (.ireturn, 1) := by decide +kernel
theorem dX0_remove_0 : decode cX0_remove 0 = .ok (.aload_n 1, 1) := by decide +kernel
theorem dX0_remove_1 : decode cX0_remove 1 = .ok (.iconst 0, 1) := by decide +kernel
theorem dX0_remove_2 : decode cX0_remove 2 = .ok (.putfield 116, 3) := by decide +kernel
theorem dX0_remove_5 : decode cX0_remove 5 = .ok (.aload_n 0, 1) := by decide +kernel
theorem dX0_remove_6 : decode cX0_remove 6 = .ok (.aload_n 1, 1) := by decide +kernel
theorem dX0_remove_7 : decode cX0_remove 7 = .ok (.getfield 120, 3) := by decide +kernel
theorem dX0_remove_10 : decode cX0_remove 10 = .ok (.iconst (-1), 1) := by decide +kernel
theorem dX0_remove_11 : decode cX0_remove 11 = .ok (.invokevirtual 129, 3) := by decide +kernel
theorem dX0_remove_14 : decode cX0_remove 14 = .ok (.return_, 1) := by decide +kernel
theorem dX0_countWaiting_0 : decode cX0_countWaiting 0 = .ok (.iload_n 1, 1) := by decide +kernel
theorem dX0_countWaiting_1 : decode cX0_countWaiting 1 = .ok (.iconst 1, 1) := by decide +kernel
theorem dX0_countWaiting_2 : decode cX0_countWaiting 2 = .ok (.if_icmp .ne 16, 3) := by decide +kernel
theorem dX0_countWaiting_5 : decode cX0_countWaiting 5 = .ok (.aload_n 0, 1) := by decide +kernel
theorem dX0_countWaiting_6 : decode cX0_countWaiting 6 = .ok (.dup, 1) := by decide +kernel
theorem dX0_countWaiting_7 : decode cX0_countWaiting 7 = .ok (.getfield 51, 3) := by decide +kernel
theorem dX0_countWaiting_10 : decode cX0_countWaiting 10 = .ok (.iload_n 2, 1) := by decide +kernel
theorem dX0_countWaiting_11 : decode cX0_countWaiting 11 = .ok (.iadd, 1) := by decide +kernel
theorem dX0_countWaiting_12 : decode cX0_countWaiting 12 = .ok (.putfield 51, 3) := by decide +kernel
theorem dX0_countWaiting_15 : decode cX0_countWaiting 15 = .ok (.goto 13, 3) := by decide +kernel
theorem dX0_countWaiting_18 : decode cX0_countWaiting 18 = .ok (.aload_n 0, 1) := by decide +kernel
theorem dX0_countWaiting_19 : decode cX0_countWaiting 19 = .ok (.dup, 1) := by decide +kernel
theorem dX0_countWaiting_20 : decode cX0_countWaiting 20 = .ok (.getfield 47, 3) := by decide +kernel
theorem dX0_countWaiting_23 : decode cX0_countWaiting 23 = .ok (.iload_n 2, 1) := by decide +kernel
theorem dX0_countWaiting_24 : decode cX0_countWaiting 24 = .ok (.iadd, 1) := by decide +kernel
theorem dX0_countWaiting_25 : decode cX0_countWaiting 25 = .ok (.putfield 47, 3) := by decide +kernel
theorem dX0_countWaiting_28 : decode cX0_countWaiting 28 = .ok (.return_, 1) := by decide +kernel
theorem dX0_slipsThatWait_0 : decode cX0_slipsThatWait 0 = .ok (.aload_n 0, 1) := by decide +kernel
theorem dX0_slipsThatWait_1 : decode cX0_slipsThatWait 1 = .ok (.getfield 47, 3) := by decide +kernel
theorem dX0_slipsThatWait_4 : decode cX0_slipsThatWait 4 = .ok (.aload_n 0, 1) := by decide +kernel
theorem dX0_slipsThatWait_5 : decode cX0_slipsThatWait 5 = .ok (.getfield 51, 3) := by decide +kernel
theorem dX0_slipsThatWait_8 : decode cX0_slipsThatWait 8 = .ok (.iadd, 1) := by decide +kernel
theorem dX0_slipsThatWait_9 : decode cX0_slipsThatWait 9 = .ok (.ireturn, 1) := by decide +kernel
theorem dX0_find_0 : decode cX0_find 0 = .ok (.aload_n 0, 1) := by decide +kernel
theorem dX0_find_1 : decode cX0_find 1 = .ok (.getfield 34, 3) := by decide +kernel
theorem dX0_find_4 : decode cX0_find 4 = .ok (.astore_n 2, 1) := by decide +kernel
theorem dX0_find_5 : decode cX0_find 5 = .ok (.aload_n 2, 1) := by decide +kernel
theorem dX0_find_6 : decode cX0_find 6 = .ok (.ifnull 28, 3) := by decide +kernel
theorem dX0_find_9 : decode cX0_find 9 = .ok (.aload_n 2, 1) := by decide +kernel
theorem dX0_find_10 : decode cX0_find 10 = .ok (.getfield 116, 3) := by decide +kernel
theorem dX0_find_13 : decode cX0_find 13 = .ok (.ifCond .eq 13, 3) := by decide +kernel
theorem dX0_find_16 : decode cX0_find 16 = .ok (.aload_n 2, 1) := by decide +kernel
theorem dX0_find_17 : decode cX0_find 17 = .ok (.getfield 109, 3) := by decide +kernel
theorem dX0_find_20 : decode cX0_find 20 = .ok (.iload_n 1, 1) := by decide +kernel
theorem dX0_find_21 : decode cX0_find 21 = .ok (.if_icmp .ne 5, 3) := by decide +kernel
theorem dX0_find_24 : decode cX0_find 24 = .ok (.aload_n 2, 1) := by decide +kernel
theorem dX0_find_25 : decode cX0_find 25 = .ok (.areturn, 1) := by decide +kernel
theorem dX0_find_26 : decode cX0_find 26 = .ok (.aload_n 2, 1) := by decide +kernel
theorem dX0_find_27 : decode cX0_find 27 = .ok (.getfield 41, 3) := by decide +kernel
theorem dX0_find_30 : decode cX0_find 30 = .ok (.astore_n 2, 1) := by decide +kernel
theorem dX0_find_31 : decode cX0_find 31 = .ok (.goto (-26), 3) := by decide +kernel
theorem dX0_find_34 : decode cX0_find 34 = .ok (.aconst_null, 1) := by decide +kernel
theorem dX0_find_35 : decode cX0_find 35 = .ok (.areturn, 1) := by decide +kernel
theorem dX0_freePlace_0 : decode cX0_freePlace 0 = .ok (.aload_n 0, 1) := by decide +kernel
theorem dX0_freePlace_1 : decode cX0_freePlace 1 = .ok (.getfield 34, 3) := by decide +kernel
theorem dX0_freePlace_4 : decode cX0_freePlace 4 = .ok (.astore_n 1, 1) := by decide +kernel
theorem dX0_freePlace_5 : decode cX0_freePlace 5 = .ok (.aload_n 1, 1) := by decide +kernel
theorem dX0_freePlace_6 : decode cX0_freePlace 6 = .ok (.ifnull 20, 3) := by decide +kernel
theorem dX0_freePlace_9 : decode cX0_freePlace 9 = .ok (.aload_n 1, 1) := by decide +kernel
theorem dX0_freePlace_10 : decode cX0_freePlace 10 = .ok (.getfield 116, 3) := by decide +kernel
theorem dX0_freePlace_13 : decode cX0_freePlace 13 = .ok (.ifCond .ne 5, 3) := by decide +kernel
theorem dX0_freePlace_16 : decode cX0_freePlace 16 = .ok (.aload_n 1, 1) := by decide +kernel
theorem dX0_freePlace_17 : decode cX0_freePlace 17 = .ok (.areturn, 1) := by decide +kernel
theorem dX0_freePlace_18 : decode cX0_freePlace 18 = .ok (.aload_n 1, 1) := by decide +kernel
theorem dX0_freePlace_19 : decode cX0_freePlace 19 = .ok (.getfield 41, 3) := by decide +kernel
theorem dX0_freePlace_22 : decode cX0_freePlace 22 = .ok (.astore_n 1, 1) := by decide +kernel
theorem dX0_freePlace_23 : decode cX0_freePlace 23 = .ok (.goto (-18), 3) := by decide +kernel
theorem dX0_freePlace_26 : decode cX0_freePlace 26 = .ok (.aconst_null, 1) := by decide +kernel
theorem dX0_freePlace_27 : decode cX0_freePlace 27 = .ok (.areturn, 1) := by decide +kernel
theorem dX0_hostFor_0 : decode cX0_hostFor 0 = .ok (.aconst_null, 1) := by decide +kernel
theorem dX0_hostFor_1 : decode cX0_hostFor 1 = .ok (.astore 4, 2) := by decide +kernel
theorem dX0_hostFor_3 : decode cX0_hostFor 3 = .ok (.aload_n 0, 1) := by decide +kernel
theorem dX0_hostFor_4 : decode cX0_hostFor 4 = .ok (.getfield 34, 3) := by decide +kernel
theorem dX0_hostFor_7 : decode cX0_hostFor 7 = .ok (.astore 5, 2) := by decide +kernel
theorem dX0_hostFor_9 : decode cX0_hostFor 9 = .ok (.aload 5, 2) := by decide +kernel
theorem dX0_hostFor_11 : decode cX0_hostFor 11 = .ok (.ifnull 79, 3) := by decide +kernel
theorem dX0_hostFor_14 : decode cX0_hostFor 14 = .ok (.aload 5, 2) := by decide +kernel
theorem dX0_hostFor_16 : decode cX0_hostFor 16 = .ok (.iload_n 1, 1) := by decide +kernel
theorem dX0_hostFor_17 : decode cX0_hostFor 17 = .ok (.invokevirtual 145, 3) := by decide +kernel
theorem dX0_hostFor_20 : decode cX0_hostFor 20 = .ok (.ifCond .eq 30, 3) := by decide +kernel
theorem dX0_hostFor_23 : decode cX0_hostFor 23 = .ok (.aload 5, 2) := by decide +kernel
theorem dX0_hostFor_25 : decode cX0_hostFor 25 = .ok (.invokevirtual 149, 3) := by decide +kernel
theorem dX0_hostFor_28 : decode cX0_hostFor 28 = .ok (.iconst 1, 1) := by decide +kernel
theorem dX0_hostFor_29 : decode cX0_hostFor 29 = .ok (.iadd, 1) := by decide +kernel
theorem dX0_hostFor_30 : decode cX0_hostFor 30 = .ok (.iload_n 2, 1) := by decide +kernel
theorem dX0_hostFor_31 : decode cX0_hostFor 31 = .ok (.if_icmp .ne 19, 3) := by decide +kernel
theorem dX0_hostFor_34 : decode cX0_hostFor 34 = .ok (.aload 5, 2) := by decide +kernel
theorem dX0_hostFor_36 : decode cX0_hostFor 36 = .ok (.getfield 103, 3) := by decide +kernel
theorem dX0_hostFor_39 : decode cX0_hostFor 39 = .ok (.iload_n 3, 1) := by decide +kernel
theorem dX0_hostFor_40 : decode cX0_hostFor 40 = .ok (.iadd, 1) := by decide +kernel
theorem dX0_hostFor_41 : decode cX0_hostFor 41 = .ok (.bipush 9, 2) := by decide +kernel
theorem dX0_hostFor_43 : decode cX0_hostFor 43 = .ok (.if_icmp .gt 7, 3) := by decide +kernel
theorem dX0_hostFor_46 : decode cX0_hostFor 46 = .ok (.iconst 1, 1) := by decide +kernel
theorem dX0_hostFor_47 : decode cX0_hostFor 47 = .ok (.goto 4, 3) := by decide +kernel
theorem dX0_hostFor_50 : decode cX0_hostFor 50 = .ok (.iconst 0, 1) := by decide +kernel
theorem dX0_hostFor_51 : decode cX0_hostFor 51 = .ok (.istore 6, 2) := by decide +kernel
theorem dX0_hostFor_53 : decode cX0_hostFor 53 = .ok (.iload 6, 2) := by decide +kernel
theorem dX0_hostFor_55 : decode cX0_hostFor 55 = .ok (.ifCond .eq 25, 3) := by decide +kernel
theorem dX0_hostFor_58 : decode cX0_hostFor 58 = .ok (.aload 4, 2) := by decide +kernel
theorem dX0_hostFor_60 : decode cX0_hostFor 60 = .ok (.ifnull 16, 3) := by decide +kernel
theorem dX0_hostFor_63 : decode cX0_hostFor 63 = .ok (.aload 5, 2) := by decide +kernel
theorem dX0_hostFor_65 : decode cX0_hostFor 65 = .ok (.getfield 109, 3) := by decide +kernel
theorem dX0_hostFor_68 : decode cX0_hostFor 68 = .ok (.aload 4, 2) := by decide +kernel
theorem dX0_hostFor_70 : decode cX0_hostFor 70 = .ok (.getfield 109, 3) := by decide +kernel
theorem dX0_hostFor_73 : decode cX0_hostFor 73 = .ok (.if_icmp .ge 7, 3) := by decide +kernel
theorem dX0_hostFor_76 : decode cX0_hostFor 76 = .ok (.aload 5, 2) := by decide +kernel
theorem dX0_hostFor_78 : decode cX0_hostFor 78 = .ok (.astore 4, 2) := by decide +kernel
theorem dX0_hostFor_80 : decode cX0_hostFor 80 = .ok (.aload 5, 2) := by decide +kernel
theorem dX0_hostFor_82 : decode cX0_hostFor 82 = .ok (.getfield 41, 3) := by decide +kernel
theorem dX0_hostFor_85 : decode cX0_hostFor 85 = .ok (.astore 5, 2) := by decide +kernel
theorem dX0_hostFor_87 : decode cX0_hostFor 87 = .ok (.goto (-78), 3) := by decide +kernel
theorem dX0_hostFor_90 : decode cX0_hostFor 90 = .ok (.aload 4, 2) := by decide +kernel
theorem dX0_hostFor_92 : decode cX0_hostFor 92 = .ok (.areturn, 1) := by decide +kernel
theorem dX0_ranked_0 : decode cX0_ranked 0 = .ok (.aload_n 0, 1) := by decide +kernel
theorem dX0_ranked_1 : decode cX0_ranked 1 = .ok (.getfield 34, 3) := by decide +kernel
theorem dX0_ranked_4 : decode cX0_ranked 4 = .ok (.astore_n 3, 1) := by decide +kernel
theorem dX0_ranked_5 : decode cX0_ranked 5 = .ok (.aload_n 3, 1) := by decide +kernel
theorem dX0_ranked_6 : decode cX0_ranked 6 = .ok (.ifnull 30, 3) := by decide +kernel
theorem dX0_ranked_9 : decode cX0_ranked 9 = .ok (.aload_n 3, 1) := by decide +kernel
theorem dX0_ranked_10 : decode cX0_ranked 10 = .ok (.iload_n 1, 1) := by decide +kernel
theorem dX0_ranked_11 : decode cX0_ranked 11 = .ok (.invokevirtual 145, 3) := by decide +kernel
theorem dX0_ranked_14 : decode cX0_ranked 14 = .ok (.ifCond .eq 14, 3) := by decide +kernel
theorem dX0_ranked_17 : decode cX0_ranked 17 = .ok (.aload_n 0, 1) := by decide +kernel
theorem dX0_ranked_18 : decode cX0_ranked 18 = .ok (.aload_n 3, 1) := by decide +kernel
theorem dX0_ranked_19 : decode cX0_ranked 19 = .ok (.invokevirtual 153, 3) := by decide +kernel
theorem dX0_ranked_22 : decode cX0_ranked 22 = .ok (.iload_n 2, 1) := by decide +kernel
theorem dX0_ranked_23 : decode cX0_ranked 23 = .ok (.if_icmp .ne 5, 3) := by decide +kernel
theorem dX0_ranked_26 : decode cX0_ranked 26 = .ok (.aload_n 3, 1) := by decide +kernel
theorem dX0_ranked_27 : decode cX0_ranked 27 = .ok (.areturn, 1) := by decide +kernel
theorem dX0_ranked_28 : decode cX0_ranked 28 = .ok (.aload_n 3, 1) := by decide +kernel
theorem dX0_ranked_29 : decode cX0_ranked 29 = .ok (.getfield 41, 3) := by decide +kernel
theorem dX0_ranked_32 : decode cX0_ranked 32 = .ok (.astore_n 3, 1) := by decide +kernel
theorem dX0_ranked_33 : decode cX0_ranked 33 = .ok (.goto (-28), 3) := by decide +kernel
theorem dX0_ranked_36 : decode cX0_ranked 36 = .ok (.aconst_null, 1) := by decide +kernel
theorem dX0_ranked_37 : decode cX0_ranked 37 = .ok (.areturn, 1) := by decide +kernel
theorem dX0_slipsAheadOf_0 : decode cX0_slipsAheadOf 0 = .ok (.iconst 0, 1) := by decide +kernel
theorem dX0_slipsAheadOf_1 : decode cX0_slipsAheadOf 1 = .ok (.istore_n 2, 1) := by decide +kernel
theorem dX0_slipsAheadOf_2 : decode cX0_slipsAheadOf 2 = .ok (.aload_n 0, 1) := by decide +kernel
theorem dX0_slipsAheadOf_3 : decode cX0_slipsAheadOf 3 = .ok (.getfield 34, 3) := by decide +kernel
theorem dX0_slipsAheadOf_6 : decode cX0_slipsAheadOf 6 = .ok (.astore_n 3, 1) := by decide +kernel
theorem dX0_slipsAheadOf_7 : decode cX0_slipsAheadOf 7 = .ok (.aload_n 3, 1) := by decide +kernel
theorem dX0_slipsAheadOf_8 : decode cX0_slipsAheadOf 8 = .ok (.ifnull 33, 3) := by decide +kernel
theorem dX0_slipsAheadOf_11 : decode cX0_slipsAheadOf 11 = .ok (.aload_n 3, 1) := by decide +kernel
theorem dX0_slipsAheadOf_12 : decode cX0_slipsAheadOf 12 = .ok (.aload_n 1, 1) := by decide +kernel
theorem dX0_slipsAheadOf_13 : decode cX0_slipsAheadOf 13 = .ok (.getfield 120, 3) := by decide +kernel
theorem dX0_slipsAheadOf_16 : decode cX0_slipsAheadOf 16 = .ok (.invokevirtual 145, 3) := by decide +kernel
theorem dX0_slipsAheadOf_19 : decode cX0_slipsAheadOf 19 = .ok (.ifCond .eq 14, 3) := by decide +kernel
theorem dX0_slipsAheadOf_22 : decode cX0_slipsAheadOf 22 = .ok (.aload_n 3, 1) := by decide +kernel
theorem dX0_slipsAheadOf_23 : decode cX0_slipsAheadOf 23 = .ok (.aload_n 1, 1) := by decide +kernel
theorem dX0_slipsAheadOf_24 : decode cX0_slipsAheadOf 24 = .ok (.invokevirtual 156, 3) := by decide +kernel
theorem dX0_slipsAheadOf_27 : decode cX0_slipsAheadOf 27 = .ok (.ifCond .eq 6, 3) := by decide +kernel
theorem dX0_slipsAheadOf_30 : decode cX0_slipsAheadOf 30 = .ok (.iinc 2 1, 3) := by decide +kernel
theorem dX0_slipsAheadOf_33 : decode cX0_slipsAheadOf 33 = .ok (.aload_n 3, 1) := by decide +kernel
theorem dX0_slipsAheadOf_34 : decode cX0_slipsAheadOf 34 = .ok (.getfield 41, 3) := by decide +kernel
theorem dX0_slipsAheadOf_37 : decode cX0_slipsAheadOf 37 = .ok (.astore_n 3, 1) := by decide +kernel
theorem dX0_slipsAheadOf_38 : decode cX0_slipsAheadOf 38 = .ok (.goto (-31), 3) := by decide +kernel
theorem dX0_slipsAheadOf_41 : decode cX0_slipsAheadOf 41 = .ok (.iload_n 2, 1) := by decide +kernel
theorem dX0_slipsAheadOf_42 : decode cX0_slipsAheadOf 42 = .ok (.ireturn, 1) := by decide +kernel
theorem dX0_age_0 : decode cX0_age 0 = .ok (.aload_n 0, 1) := by decide +kernel
theorem dX0_age_1 : decode cX0_age 1 = .ok (.getfield 57, 3) := by decide +kernel
theorem dX0_age_4 : decode cX0_age 4 = .ok (.aload_n 1, 1) := by decide +kernel
theorem dX0_age_5 : decode cX0_age 5 = .ok (.getfield 126, 3) := by decide +kernel
theorem dX0_age_8 : decode cX0_age 8 = .ok (.isub, 1) := by decide +kernel
theorem dX0_age_9 : decode cX0_age 9 = .ok (.ireturn, 1) := by decide +kernel
theorem dX0_isTooOld_0 : decode cX0_isTooOld 0 = .ok (.aload_n 0, 1) := by decide +kernel
theorem dX0_isTooOld_1 : decode cX0_isTooOld 1 = .ok (.aload_n 1, 1) := by decide +kernel
theorem dX0_isTooOld_2 : decode cX0_isTooOld 2 = .ok (.invokevirtual 140, 3) := by decide +kernel
theorem dX0_isTooOld_5 : decode cX0_isTooOld 5 = .ok (.aload_n 0, 1) := by decide +kernel
theorem dX0_isTooOld_6 : decode cX0_isTooOld 6 = .ok (.getfield 13, 3) := by decide +kernel
theorem dX0_isTooOld_9 : decode cX0_isTooOld 9 = .ok (.aload_n 1, 1) := by decide +kernel
theorem dX0_isTooOld_10 : decode cX0_isTooOld 10 = .ok (.getfield 120, 3) := by decide +kernel
theorem dX0_isTooOld_13 : decode cX0_isTooOld 13 = .ok (.iconst 1, 1) := by decide +kernel
theorem dX0_isTooOld_14 : decode cX0_isTooOld 14 = .ok (.if_icmp .ne 7, 3) := by decide +kernel
theorem dX0_isTooOld_17 : decode cX0_isTooOld 17 = .ok (.iconst 1, 1) := by decide +kernel
theorem dX0_isTooOld_18 : decode cX0_isTooOld 18 = .ok (.goto 4, 3) := by decide +kernel
theorem dX0_isTooOld_21 : decode cX0_isTooOld 21 = .ok (.iconst 0, 1) := by decide +kernel
theorem dX0_isTooOld_22 : decode cX0_isTooOld 22 = .ok (.invokestatic 88, 3) := by decide +kernel
theorem dX0_isTooOld_25 : decode cX0_isTooOld 25 = .ok (.if_icmp .lt 7, 3) := by decide +kernel
theorem dX0_isTooOld_28 : decode cX0_isTooOld 28 = .ok (.iconst 1, 1) := by decide +kernel
theorem dX0_isTooOld_29 : decode cX0_isTooOld 29 = .ok (.goto 4, 3) := by decide +kernel
theorem dX0_isTooOld_32 : decode cX0_isTooOld 32 = .ok (.iconst 0, 1) := by decide +kernel
theorem dX0_isTooOld_33 : decode cX0_isTooOld 33 = .ok (.ireturn, 1) := by decide +kernel
theorem dX0_amount_0 : decode cX0_amount 0 = .ok (.iload_n 1, 1) := by decide +kernel
theorem dX0_amount_1 : decode cX0_amount 1 = .ok (.tableswitch 108 0 9 #[55, 60, 65, 70, 75, 83, 88, 93, 98, 103], 55) := by decide +kernel
theorem dX0_amount_56 : decode cX0_amount 56 = .ok (.aload_n 0, 1) := by decide +kernel
theorem dX0_amount_57 : decode cX0_amount 57 = .ok (.getfield 57, 3) := by decide +kernel
theorem dX0_amount_60 : decode cX0_amount 60 = .ok (.ireturn, 1) := by decide +kernel
theorem dX0_amount_61 : decode cX0_amount 61 = .ok (.aload_n 0, 1) := by decide +kernel
theorem dX0_amount_62 : decode cX0_amount 62 = .ok (.getfield 47, 3) := by decide +kernel
theorem dX0_amount_65 : decode cX0_amount 65 = .ok (.ireturn, 1) := by decide +kernel
theorem dX0_amount_66 : decode cX0_amount 66 = .ok (.aload_n 0, 1) := by decide +kernel
theorem dX0_amount_67 : decode cX0_amount 67 = .ok (.getfield 51, 3) := by decide +kernel
theorem dX0_amount_70 : decode cX0_amount 70 = .ok (.ireturn, 1) := by decide +kernel
theorem dX0_amount_71 : decode cX0_amount 71 = .ok (.aload_n 0, 1) := by decide +kernel
theorem dX0_amount_72 : decode cX0_amount 72 = .ok (.getfield 60, 3) := by decide +kernel
theorem dX0_amount_75 : decode cX0_amount 75 = .ok (.ireturn, 1) := by decide +kernel
theorem dX0_amount_76 : decode cX0_amount 76 = .ok (.aload_n 0, 1) := by decide +kernel
theorem dX0_amount_77 : decode cX0_amount 77 = .ok (.getfield 21, 3) := by decide +kernel
theorem dX0_amount_80 : decode cX0_amount 80 = .ok (.getfield 160, 3) := by decide +kernel
theorem dX0_amount_83 : decode cX0_amount 83 = .ok (.ireturn, 1) := by decide +kernel
theorem dX0_amount_84 : decode cX0_amount 84 = .ok (.aload_n 0, 1) := by decide +kernel
theorem dX0_amount_85 : decode cX0_amount 85 = .ok (.getfield 63, 3) := by decide +kernel
theorem dX0_amount_88 : decode cX0_amount 88 = .ok (.ireturn, 1) := by decide +kernel
theorem dX0_amount_89 : decode cX0_amount 89 = .ok (.aload_n 0, 1) := by decide +kernel
theorem dX0_amount_90 : decode cX0_amount 90 = .ok (.getfield 66, 3) := by decide +kernel
theorem dX0_amount_93 : decode cX0_amount 93 = .ok (.ireturn, 1) := by decide +kernel
theorem dX0_amount_94 : decode cX0_amount 94 = .ok (.aload_n 0, 1) := by decide +kernel
theorem dX0_amount_95 : decode cX0_amount 95 = .ok (.getfield 69, 3) := by decide +kernel
theorem dX0_amount_98 : decode cX0_amount 98 = .ok (.ireturn, 1) := by decide +kernel
theorem dX0_amount_99 : decode cX0_amount 99 = .ok (.aload_n 0, 1) := by decide +kernel
theorem dX0_amount_100 : decode cX0_amount 100 = .ok (.getfield 75, 3) := by decide +kernel
theorem dX0_amount_103 : decode cX0_amount 103 = .ok (.ireturn, 1) := by decide +kernel
theorem dX0_amount_104 : decode cX0_amount 104 = .ok (.aload_n 0, 1) := by decide +kernel
theorem dX0_amount_105 : decode cX0_amount 105 = .ok (.getfield 78, 3) := by decide +kernel
theorem dX0_amount_108 : decode cX0_amount 108 = .ok (.ireturn, 1) := by decide +kernel
theorem dX0_amount_109 : decode cX0_amount 109 = .ok (.aload_n 0, 1) := by decide +kernel
theorem dX0_amount_110 : decode cX0_amount 110 = .ok (.getfield 13, 3) := by decide +kernel
theorem dX0_amount_113 : decode cX0_amount 113 = .ok (.iload_n 1, 1) := by decide +kernel
theorem dX0_amount_114 : decode cX0_amount 114 = .ok (.bipush 10, 2) := by decide +kernel
theorem dX0_amount_116 : decode cX0_amount 116 = .ok (.isub, 1) := by decide +kernel
theorem dX0_amount_117 : decode cX0_amount 117 = .ok (.invokestatic 81, 3) := by decide +kernel
theorem dX0_amount_120 : decode cX0_amount 120 = .ok (.ifCond .eq 17, 3) := by decide +kernel
theorem dX0_amount_123 : decode cX0_amount 123 = .ok (.aload_n 0, 1) := by decide +kernel
theorem dX0_amount_124 : decode cX0_amount 124 = .ok (.getfield 13, 3) := by decide +kernel
theorem dX0_amount_127 : decode cX0_amount 127 = .ok (.iload_n 1, 1) := by decide +kernel
theorem dX0_amount_128 : decode cX0_amount 128 = .ok (.bipush 10, 2) := by decide +kernel
theorem dX0_amount_130 : decode cX0_amount 130 = .ok (.isub, 1) := by decide +kernel
theorem dX0_amount_131 : decode cX0_amount 131 = .ok (.invokestatic 88, 3) := by decide +kernel
theorem dX0_amount_134 : decode cX0_amount 134 = .ok (.goto 5, 3) := by decide +kernel
theorem dX0_amount_137 : decode cX0_amount 137 = .ok (.bipush (-2), 2) := by decide +kernel
theorem dX0_amount_139 : decode cX0_amount 139 = .ok (.ireturn, 1) := by decide +kernel
theorem dX0_reason_0 : decode cX0_reason 0 = .ok (.aload_n 0, 1) := by decide +kernel
theorem dX0_reason_1 : decode cX0_reason 1 = .ok (.getfield 69, 3) := by decide +kernel
theorem dX0_reason_4 : decode cX0_reason 4 = .ok (.ifCond .le 22, 3) := by decide +kernel
theorem dX0_reason_7 : decode cX0_reason 7 = .ok (.aload_n 0, 1) := by decide +kernel
theorem dX0_reason_8 : decode cX0_reason 8 = .ok (.getfield 75, 3) := by decide +kernel
theorem dX0_reason_11 : decode cX0_reason 11 = .ok (.aload_n 0, 1) := by decide +kernel
theorem dX0_reason_12 : decode cX0_reason 12 = .ok (.getfield 13, 3) := by decide +kernel
theorem dX0_reason_15 : decode cX0_reason 15 = .ok (.iconst 2, 1) := by decide +kernel
theorem dX0_reason_16 : decode cX0_reason 16 = .ok (.invokestatic 88, 3) := by decide +kernel
theorem dX0_reason_19 : decode cX0_reason 19 = .ok (.if_icmp .ge 7, 3) := by decide +kernel
theorem dX0_reason_22 : decode cX0_reason 22 = .ok (.iconst 1, 1) := by decide +kernel
theorem dX0_reason_23 : decode cX0_reason 23 = .ok (.goto 4, 3) := by decide +kernel
theorem dX0_reason_26 : decode cX0_reason 26 = .ok (.iconst 0, 1) := by decide +kernel
theorem dX0_reason_27 : decode cX0_reason 27 = .ok (.istore_n 1, 1) := by decide +kernel
theorem dX0_reason_28 : decode cX0_reason 28 = .ok (.iload_n 1, 1) := by decide +kernel
theorem dX0_reason_29 : decode cX0_reason 29 = .ok (.ifCond .eq 20, 3) := by decide +kernel
theorem dX0_reason_32 : decode cX0_reason 32 = .ok (.aload_n 0, 1) := by decide +kernel
theorem dX0_reason_33 : decode cX0_reason 33 = .ok (.aload_n 0, 1) := by decide +kernel
theorem dX0_reason_34 : decode cX0_reason 34 = .ok (.getfield 72, 3) := by decide +kernel
theorem dX0_reason_37 : decode cX0_reason 37 = .ok (.aload_n 0, 1) := by decide +kernel
theorem dX0_reason_38 : decode cX0_reason 38 = .ok (.getfield 60, 3) := by decide +kernel
theorem dX0_reason_41 : decode cX0_reason 41 = .ok (.invokevirtual 163, 3) := by decide +kernel
theorem dX0_reason_44 : decode cX0_reason 44 = .ok (.ifnull 5, 3) := by decide +kernel
theorem dX0_reason_47 : decode cX0_reason 47 = .ok (.iconst 0, 1) := by decide +kernel
theorem dX0_reason_48 : decode cX0_reason 48 = .ok (.ireturn, 1) := by decide +kernel
theorem dX0_reason_49 : decode cX0_reason 49 = .ok (.aload_n 0, 1) := by decide +kernel
theorem dX0_reason_50 : decode cX0_reason 50 = .ok (.invokevirtual 167, 3) := by decide +kernel
theorem dX0_reason_53 : decode cX0_reason 53 = .ok (.istore_n 2, 1) := by decide +kernel
theorem dX0_reason_54 : decode cX0_reason 54 = .ok (.aload_n 0, 1) := by decide +kernel
theorem dX0_reason_55 : decode cX0_reason 55 = .ok (.iload_n 2, 1) := by decide +kernel
theorem dX0_reason_56 : decode cX0_reason 56 = .ok (.invokevirtual 170, 3) := by decide +kernel
theorem dX0_reason_59 : decode cX0_reason 59 = .ok (.astore_n 3, 1) := by decide +kernel
theorem dX0_reason_60 : decode cX0_reason 60 = .ok (.aload_n 3, 1) := by decide +kernel
theorem dX0_reason_61 : decode cX0_reason 61 = .ok (.ifnull 13, 3) := by decide +kernel
theorem dX0_reason_64 : decode cX0_reason 64 = .ok (.aload_n 0, 1) := by decide +kernel
theorem dX0_reason_65 : decode cX0_reason 65 = .ok (.aload_n 3, 1) := by decide +kernel
theorem dX0_reason_66 : decode cX0_reason 66 = .ok (.invokevirtual 173, 3) := by decide +kernel
theorem dX0_reason_69 : decode cX0_reason 69 = .ok (.ifCond .eq 5, 3) := by decide +kernel
theorem dX0_reason_72 : decode cX0_reason 72 = .ok (.iconst 1, 1) := by decide +kernel
theorem dX0_reason_73 : decode cX0_reason 73 = .ok (.ireturn, 1) := by decide +kernel
theorem dX0_reason_74 : decode cX0_reason 74 = .ok (.aload_n 0, 1) := by decide +kernel
theorem dX0_reason_75 : decode cX0_reason 75 = .ok (.iload_n 2, 1) := by decide +kernel
theorem dX0_reason_76 : decode cX0_reason 76 = .ok (.aload_n 0, 1) := by decide +kernel
theorem dX0_reason_77 : decode cX0_reason 77 = .ok (.getfield 60, 3) := by decide +kernel
theorem dX0_reason_80 : decode cX0_reason 80 = .ok (.invokevirtual 163, 3) := by decide +kernel
theorem dX0_reason_83 : decode cX0_reason 83 = .ok (.ifnull 7, 3) := by decide +kernel
theorem dX0_reason_86 : decode cX0_reason 86 = .ok (.iconst 2, 1) := by decide +kernel
theorem dX0_reason_87 : decode cX0_reason 87 = .ok (.goto 4, 3) := by decide +kernel
theorem dX0_reason_90 : decode cX0_reason 90 = .ok (.iconst 3, 1) := by decide +kernel
theorem dX0_reason_91 : decode cX0_reason 91 = .ok (.ireturn, 1) := by decide +kernel
theorem dX0_chosen_0 : decode cX0_chosen 0 = .ok (.iload_n 1, 1) := by decide +kernel
theorem dX0_chosen_1 : decode cX0_chosen 1 = .ok (.tableswitch 62 0 2 #[27, 40, 49], 27) := by decide +kernel
theorem dX0_chosen_28 : decode cX0_chosen 28 = .ok (.aload_n 0, 1) := by decide +kernel
theorem dX0_chosen_29 : decode cX0_chosen 29 = .ok (.aload_n 0, 1) := by decide +kernel
theorem dX0_chosen_30 : decode cX0_chosen 30 = .ok (.getfield 72, 3) := by decide +kernel
theorem dX0_chosen_33 : decode cX0_chosen 33 = .ok (.aload_n 0, 1) := by decide +kernel
theorem dX0_chosen_34 : decode cX0_chosen 34 = .ok (.getfield 60, 3) := by decide +kernel
theorem dX0_chosen_37 : decode cX0_chosen 37 = .ok (.invokevirtual 163, 3) := by decide +kernel
theorem dX0_chosen_40 : decode cX0_chosen 40 = .ok (.areturn, 1) := by decide +kernel
theorem dX0_chosen_41 : decode cX0_chosen 41 = .ok (.aload_n 0, 1) := by decide +kernel
theorem dX0_chosen_42 : decode cX0_chosen 42 = .ok (.aload_n 0, 1) := by decide +kernel
theorem dX0_chosen_43 : decode cX0_chosen 43 = .ok (.invokevirtual 167, 3) := by decide +kernel
theorem dX0_chosen_46 : decode cX0_chosen 46 = .ok (.invokevirtual 170, 3) := by decide +kernel
theorem dX0_chosen_49 : decode cX0_chosen 49 = .ok (.areturn, 1) := by decide +kernel
theorem dX0_chosen_50 : decode cX0_chosen 50 = .ok (.aload_n 0, 1) := by decide +kernel
theorem dX0_chosen_51 : decode cX0_chosen 51 = .ok (.aload_n 0, 1) := by decide +kernel
theorem dX0_chosen_52 : decode cX0_chosen 52 = .ok (.invokevirtual 167, 3) := by decide +kernel
theorem dX0_chosen_55 : decode cX0_chosen 55 = .ok (.aload_n 0, 1) := by decide +kernel
theorem dX0_chosen_56 : decode cX0_chosen 56 = .ok (.getfield 60, 3) := by decide +kernel
theorem dX0_chosen_59 : decode cX0_chosen 59 = .ok (.invokevirtual 163, 3) := by decide +kernel
theorem dX0_chosen_62 : decode cX0_chosen 62 = .ok (.areturn, 1) := by decide +kernel
theorem dX0_chosen_63 : decode cX0_chosen 63 = .ok (.aload_n 0, 1) := by decide +kernel
theorem dX0_chosen_64 : decode cX0_chosen 64 = .ok (.aload_n 0, 1) := by decide +kernel
theorem dX0_chosen_65 : decode cX0_chosen 65 = .ok (.invokevirtual 167, 3) := by decide +kernel
theorem dX0_chosen_68 : decode cX0_chosen 68 = .ok (.iconst 0, 1) := by decide +kernel
theorem dX0_chosen_69 : decode cX0_chosen 69 = .ok (.invokevirtual 163, 3) := by decide +kernel
theorem dX0_chosen_72 : decode cX0_chosen 72 = .ok (.areturn, 1) := by decide +kernel
theorem dX0_newSort_0 : decode cX0_newSort 0 = .ok (.aload_n 0, 1) := by decide +kernel
theorem dX0_newSort_1 : decode cX0_newSort 1 = .ok (.getfield 51, 3) := by decide +kernel
theorem dX0_newSort_4 : decode cX0_newSort 4 = .ok (.ifCond .ne 5, 3) := by decide +kernel
theorem dX0_newSort_7 : decode cX0_newSort 7 = .ok (.iconst 0, 1) := by decide +kernel
theorem dX0_newSort_8 : decode cX0_newSort 8 = .ok (.ireturn, 1) := by decide +kernel
theorem dX0_newSort_9 : decode cX0_newSort 9 = .ok (.aload_n 0, 1) := by decide +kernel
theorem dX0_newSort_10 : decode cX0_newSort 10 = .ok (.getfield 47, 3) := by decide +kernel
theorem dX0_newSort_13 : decode cX0_newSort 13 = .ok (.ifCond .ne 5, 3) := by decide +kernel
theorem dX0_newSort_16 : decode cX0_newSort 16 = .ok (.iconst 1, 1) := by decide +kernel
theorem dX0_newSort_17 : decode cX0_newSort 17 = .ok (.ireturn, 1) := by decide +kernel
theorem dX0_newSort_18 : decode cX0_newSort 18 = .ok (.aload_n 0, 1) := by decide +kernel
theorem dX0_newSort_19 : decode cX0_newSort 19 = .ok (.getfield 78, 3) := by decide +kernel
theorem dX0_newSort_22 : decode cX0_newSort 22 = .ok (.aload_n 0, 1) := by decide +kernel
theorem dX0_newSort_23 : decode cX0_newSort 23 = .ok (.getfield 13, 3) := by decide +kernel
theorem dX0_newSort_26 : decode cX0_newSort 26 = .ok (.iconst 3, 1) := by decide +kernel
theorem dX0_newSort_27 : decode cX0_newSort 27 = .ok (.invokestatic 88, 3) := by decide +kernel
theorem dX0_newSort_30 : decode cX0_newSort 30 = .ok (.if_icmp .lt 7, 3) := by decide +kernel
theorem dX0_newSort_33 : decode cX0_newSort 33 = .ok (.iconst 1, 1) := by decide +kernel
theorem dX0_newSort_34 : decode cX0_newSort 34 = .ok (.goto 4, 3) := by decide +kernel
theorem dX0_newSort_37 : decode cX0_newSort 37 = .ok (.iconst 0, 1) := by decide +kernel
theorem dX0_newSort_38 : decode cX0_newSort 38 = .ok (.ireturn, 1) := by decide +kernel
theorem dX0_oldest_0 : decode cX0_oldest 0 = .ok (.aconst_null, 1) := by decide +kernel
theorem dX0_oldest_1 : decode cX0_oldest 1 = .ok (.astore_n 2, 1) := by decide +kernel
theorem dX0_oldest_2 : decode cX0_oldest 2 = .ok (.aload_n 0, 1) := by decide +kernel
theorem dX0_oldest_3 : decode cX0_oldest 3 = .ok (.getfield 34, 3) := by decide +kernel
theorem dX0_oldest_6 : decode cX0_oldest 6 = .ok (.astore_n 3, 1) := by decide +kernel
theorem dX0_oldest_7 : decode cX0_oldest 7 = .ok (.aload_n 3, 1) := by decide +kernel
theorem dX0_oldest_8 : decode cX0_oldest 8 = .ok (.ifnull 36, 3) := by decide +kernel
theorem dX0_oldest_11 : decode cX0_oldest 11 = .ok (.aload_n 3, 1) := by decide +kernel
theorem dX0_oldest_12 : decode cX0_oldest 12 = .ok (.iload_n 1, 1) := by decide +kernel
theorem dX0_oldest_13 : decode cX0_oldest 13 = .ok (.invokevirtual 145, 3) := by decide +kernel
theorem dX0_oldest_16 : decode cX0_oldest 16 = .ok (.ifCond .eq 20, 3) := by decide +kernel
theorem dX0_oldest_19 : decode cX0_oldest 19 = .ok (.aload_n 2, 1) := by decide +kernel
theorem dX0_oldest_20 : decode cX0_oldest 20 = .ok (.ifnull 14, 3) := by decide +kernel
theorem dX0_oldest_23 : decode cX0_oldest 23 = .ok (.aload_n 3, 1) := by decide +kernel
theorem dX0_oldest_24 : decode cX0_oldest 24 = .ok (.getfield 109, 3) := by decide +kernel
theorem dX0_oldest_27 : decode cX0_oldest 27 = .ok (.aload_n 2, 1) := by decide +kernel
theorem dX0_oldest_28 : decode cX0_oldest 28 = .ok (.getfield 109, 3) := by decide +kernel
theorem dX0_oldest_31 : decode cX0_oldest 31 = .ok (.if_icmp .ge 5, 3) := by decide +kernel
theorem dX0_oldest_34 : decode cX0_oldest 34 = .ok (.aload_n 3, 1) := by decide +kernel
theorem dX0_oldest_35 : decode cX0_oldest 35 = .ok (.astore_n 2, 1) := by decide +kernel
theorem dX0_oldest_36 : decode cX0_oldest 36 = .ok (.aload_n 3, 1) := by decide +kernel
theorem dX0_oldest_37 : decode cX0_oldest 37 = .ok (.getfield 41, 3) := by decide +kernel
theorem dX0_oldest_40 : decode cX0_oldest 40 = .ok (.astore_n 3, 1) := by decide +kernel
theorem dX0_oldest_41 : decode cX0_oldest 41 = .ok (.goto (-34), 3) := by decide +kernel
theorem dX0_oldest_44 : decode cX0_oldest 44 = .ok (.aload_n 2, 1) := by decide +kernel
theorem dX0_oldest_45 : decode cX0_oldest 45 = .ok (.areturn, 1) := by decide +kernel
theorem dX0_leastFrom_0 : decode cX0_leastFrom 0 = .ok (.aconst_null, 1) := by decide +kernel
theorem dX0_leastFrom_1 : decode cX0_leastFrom 1 = .ok (.astore_n 3, 1) := by decide +kernel
theorem dX0_leastFrom_2 : decode cX0_leastFrom 2 = .ok (.aload_n 0, 1) := by decide +kernel
theorem dX0_leastFrom_3 : decode cX0_leastFrom 3 = .ok (.getfield 34, 3) := by decide +kernel
theorem dX0_leastFrom_6 : decode cX0_leastFrom 6 = .ok (.astore 4, 2) := by decide +kernel
theorem dX0_leastFrom_8 : decode cX0_leastFrom 8 = .ok (.aload 4, 2) := by decide +kernel
theorem dX0_leastFrom_10 : decode cX0_leastFrom 10 = .ok (.ifnull 47, 3) := by decide +kernel
theorem dX0_leastFrom_13 : decode cX0_leastFrom 13 = .ok (.aload 4, 2) := by decide +kernel
theorem dX0_leastFrom_15 : decode cX0_leastFrom 15 = .ok (.iload_n 1, 1) := by decide +kernel
theorem dX0_leastFrom_16 : decode cX0_leastFrom 16 = .ok (.invokevirtual 145, 3) := by decide +kernel
theorem dX0_leastFrom_19 : decode cX0_leastFrom 19 = .ok (.ifCond .eq 28, 3) := by decide +kernel
theorem dX0_leastFrom_22 : decode cX0_leastFrom 22 = .ok (.aload 4, 2) := by decide +kernel
theorem dX0_leastFrom_24 : decode cX0_leastFrom 24 = .ok (.getfield 123, 3) := by decide +kernel
theorem dX0_leastFrom_27 : decode cX0_leastFrom 27 = .ok (.iload_n 2, 1) := by decide +kernel
theorem dX0_leastFrom_28 : decode cX0_leastFrom 28 = .ok (.if_icmp .lt 19, 3) := by decide +kernel
theorem dX0_leastFrom_31 : decode cX0_leastFrom 31 = .ok (.aload_n 3, 1) := by decide +kernel
theorem dX0_leastFrom_32 : decode cX0_leastFrom 32 = .ok (.ifnull 12, 3) := by decide +kernel
theorem dX0_leastFrom_35 : decode cX0_leastFrom 35 = .ok (.aload 4, 2) := by decide +kernel
theorem dX0_leastFrom_37 : decode cX0_leastFrom 37 = .ok (.aload_n 3, 1) := by decide +kernel
theorem dX0_leastFrom_38 : decode cX0_leastFrom 38 = .ok (.invokevirtual 156, 3) := by decide +kernel
theorem dX0_leastFrom_41 : decode cX0_leastFrom 41 = .ok (.ifCond .eq 6, 3) := by decide +kernel
theorem dX0_leastFrom_44 : decode cX0_leastFrom 44 = .ok (.aload 4, 2) := by decide +kernel
theorem dX0_leastFrom_46 : decode cX0_leastFrom 46 = .ok (.astore_n 3, 1) := by decide +kernel
theorem dX0_leastFrom_47 : decode cX0_leastFrom 47 = .ok (.aload 4, 2) := by decide +kernel
theorem dX0_leastFrom_49 : decode cX0_leastFrom 49 = .ok (.getfield 41, 3) := by decide +kernel
theorem dX0_leastFrom_52 : decode cX0_leastFrom 52 = .ok (.astore 4, 2) := by decide +kernel
theorem dX0_leastFrom_54 : decode cX0_leastFrom 54 = .ok (.goto (-46), 3) := by decide +kernel
theorem dX0_leastFrom_57 : decode cX0_leastFrom 57 = .ok (.aload_n 3, 1) := by decide +kernel
theorem dX0_leastFrom_58 : decode cX0_leastFrom 58 = .ok (.areturn, 1) := by decide +kernel
theorem dX0_drawersTo_0 : decode cX0_drawersTo 0 = .ok (.aload_n 1, 1) := by decide +kernel
theorem dX0_drawersTo_1 : decode cX0_drawersTo 1 = .ok (.getfield 123, 3) := by decide +kernel
theorem dX0_drawersTo_4 : decode cX0_drawersTo 4 = .ok (.aload_n 0, 1) := by decide +kernel
theorem dX0_drawersTo_5 : decode cX0_drawersTo 5 = .ok (.getfield 60, 3) := by decide +kernel
theorem dX0_drawersTo_8 : decode cX0_drawersTo 8 = .ok (.isub, 1) := by decide +kernel
theorem dX0_drawersTo_9 : decode cX0_drawersTo 9 = .ok (.invokestatic 176, 3) := by decide +kernel
theorem dX0_drawersTo_12 : decode cX0_drawersTo 12 = .ok (.ireturn, 1) := by decide +kernel
theorem dX0_minutesFor_0 : decode cX0_minutesFor 0 = .ok (.aload_n 0, 1) := by decide +kernel
theorem dX0_minutesFor_1 : decode cX0_minutesFor 1 = .ok (.aload_n 1, 1) := by decide +kernel
theorem dX0_minutesFor_2 : decode cX0_minutesFor 2 = .ok (.invokevirtual 182, 3) := by decide +kernel
theorem dX0_minutesFor_5 : decode cX0_minutesFor 5 = .ok (.aload_n 0, 1) := by decide +kernel
theorem dX0_minutesFor_6 : decode cX0_minutesFor 6 = .ok (.getfield 13, 3) := by decide +kernel
theorem dX0_minutesFor_9 : decode cX0_minutesFor 9 = .ok (.iconst 4, 1) := by decide +kernel
theorem dX0_minutesFor_10 : decode cX0_minutesFor 10 = .ok (.invokestatic 88, 3) := by decide +kernel
theorem dX0_minutesFor_13 : decode cX0_minutesFor 13 = .ok (.imul, 1) := by decide +kernel
theorem dX0_minutesFor_14 : decode cX0_minutesFor 14 = .ok (.aload_n 1, 1) := by decide +kernel
theorem dX0_minutesFor_15 : decode cX0_minutesFor 15 = .ok (.getfield 103, 3) := by decide +kernel
theorem dX0_minutesFor_18 : decode cX0_minutesFor 18 = .ok (.aload_n 0, 1) := by decide +kernel
theorem dX0_minutesFor_19 : decode cX0_minutesFor 19 = .ok (.getfield 13, 3) := by decide +kernel
theorem dX0_minutesFor_22 : decode cX0_minutesFor 22 = .ok (.iconst 5, 1) := by decide +kernel
theorem dX0_minutesFor_23 : decode cX0_minutesFor 23 = .ok (.invokestatic 88, 3) := by decide +kernel
theorem dX0_minutesFor_26 : decode cX0_minutesFor 26 = .ok (.imul, 1) := by decide +kernel
theorem dX0_minutesFor_27 : decode cX0_minutesFor 27 = .ok (.iadd, 1) := by decide +kernel
theorem dX0_minutesFor_28 : decode cX0_minutesFor 28 = .ok (.ireturn, 1) := by decide +kernel
theorem dX0_serveNext_0 : decode cX0_serveNext 0 = .ok (.aload_n 0, 1) := by decide +kernel
theorem dX0_serveNext_1 : decode cX0_serveNext 1 = .ok (.invokevirtual 185, 3) := by decide +kernel
theorem dX0_serveNext_4 : decode cX0_serveNext 4 = .ok (.istore_n 1, 1) := by decide +kernel
theorem dX0_serveNext_5 : decode cX0_serveNext 5 = .ok (.aload_n 0, 1) := by decide +kernel
theorem dX0_serveNext_6 : decode cX0_serveNext 6 = .ok (.iload_n 1, 1) := by decide +kernel
theorem dX0_serveNext_7 : decode cX0_serveNext 7 = .ok (.invokevirtual 188, 3) := by decide +kernel
theorem dX0_serveNext_10 : decode cX0_serveNext 10 = .ok (.astore_n 2, 1) := by decide +kernel
theorem dX0_serveNext_11 : decode cX0_serveNext 11 = .ok (.aload_n 2, 1) := by decide +kernel
theorem dX0_serveNext_12 : decode cX0_serveNext 12 = .ok (.ifnonnull 4, 3) := by decide +kernel
theorem dX0_serveNext_15 : decode cX0_serveNext 15 = .ok (.return_, 1) := by decide +kernel
theorem dX0_serveNext_16 : decode cX0_serveNext 16 = .ok (.iload_n 1, 1) := by decide +kernel
theorem dX0_serveNext_17 : decode cX0_serveNext 17 = .ok (.ifCond .eq 11, 3) := by decide +kernel
theorem dX0_serveNext_20 : decode cX0_serveNext 20 = .ok (.aload_n 0, 1) := by decide +kernel
theorem dX0_serveNext_21 : decode cX0_serveNext 21 = .ok (.aload_n 2, 1) := by decide +kernel
theorem dX0_serveNext_22 : decode cX0_serveNext 22 = .ok (.getfield 120, 3) := by decide +kernel
theorem dX0_serveNext_25 : decode cX0_serveNext 25 = .ok (.invokevirtual 191, 3) := by decide +kernel
theorem dX0_serveNext_28 : decode cX0_serveNext 28 = .ok (.aload_n 0, 1) := by decide +kernel
theorem dX0_serveNext_29 : decode cX0_serveNext 29 = .ok (.dup, 1) := by decide +kernel
theorem dX0_serveNext_30 : decode cX0_serveNext 30 = .ok (.getfield 75, 3) := by decide +kernel
theorem dX0_serveNext_33 : decode cX0_serveNext 33 = .ok (.iconst 1, 1) := by decide +kernel
theorem dX0_serveNext_34 : decode cX0_serveNext 34 = .ok (.iadd, 1) := by decide +kernel
theorem dX0_serveNext_35 : decode cX0_serveNext 35 = .ok (.putfield 75, 3) := by decide +kernel
theorem dX0_serveNext_38 : decode cX0_serveNext 38 = .ok (.aload_n 0, 1) := by decide +kernel
theorem dX0_serveNext_39 : decode cX0_serveNext 39 = .ok (.dup, 1) := by decide +kernel
theorem dX0_serveNext_40 : decode cX0_serveNext 40 = .ok (.getfield 57, 3) := by decide +kernel
theorem dX0_serveNext_43 : decode cX0_serveNext 43 = .ok (.aload_n 0, 1) := by decide +kernel
theorem dX0_serveNext_44 : decode cX0_serveNext 44 = .ok (.aload_n 2, 1) := by decide +kernel
theorem dX0_serveNext_45 : decode cX0_serveNext 45 = .ok (.invokevirtual 195, 3) := by decide +kernel
theorem dX0_serveNext_48 : decode cX0_serveNext 48 = .ok (.iadd, 1) := by decide +kernel
theorem dX0_serveNext_49 : decode cX0_serveNext 49 = .ok (.putfield 57, 3) := by decide +kernel
theorem dX0_serveNext_52 : decode cX0_serveNext 52 = .ok (.aload_n 0, 1) := by decide +kernel
theorem dX0_serveNext_53 : decode cX0_serveNext 53 = .ok (.dup, 1) := by decide +kernel
theorem dX0_serveNext_54 : decode cX0_serveNext 54 = .ok (.getfield 66, 3) := by decide +kernel
theorem dX0_serveNext_57 : decode cX0_serveNext 57 = .ok (.aload_n 0, 1) := by decide +kernel
theorem dX0_serveNext_58 : decode cX0_serveNext 58 = .ok (.aload_n 2, 1) := by decide +kernel
theorem dX0_serveNext_59 : decode cX0_serveNext 59 = .ok (.invokevirtual 182, 3) := by decide +kernel
theorem dX0_serveNext_62 : decode cX0_serveNext 62 = .ok (.iadd, 1) := by decide +kernel
theorem dX0_serveNext_63 : decode cX0_serveNext 63 = .ok (.putfield 66, 3) := by decide +kernel
theorem dX0_serveNext_66 : decode cX0_serveNext 66 = .ok (.aload_n 0, 1) := by decide +kernel
theorem dX0_serveNext_67 : decode cX0_serveNext 67 = .ok (.aload_n 2, 1) := by decide +kernel
theorem dX0_serveNext_68 : decode cX0_serveNext 68 = .ok (.invokevirtual 149, 3) := by decide +kernel
theorem dX0_serveNext_71 : decode cX0_serveNext 71 = .ok (.iconst 1, 1) := by decide +kernel
theorem dX0_serveNext_72 : decode cX0_serveNext 72 = .ok (.iadd, 1) := by decide +kernel
theorem dX0_serveNext_73 : decode cX0_serveNext 73 = .ok (.bipush 99, 2) := by decide +kernel
theorem dX0_serveNext_75 : decode cX0_serveNext 75 = .ok (.invokestatic 198, 3) := by decide +kernel
theorem dX0_serveNext_78 : decode cX0_serveNext 78 = .ok (.putfield 60, 3) := by decide +kernel
theorem dX0_serveNext_81 : decode cX0_serveNext 81 = .ok (.aload_n 0, 1) := by decide +kernel
theorem dX0_serveNext_82 : decode cX0_serveNext 82 = .ok (.aload_n 2, 1) := by decide +kernel
theorem dX0_serveNext_83 : decode cX0_serveNext 83 = .ok (.invokevirtual 137, 3) := by decide +kernel
theorem dX0_serveNext_86 : decode cX0_serveNext 86 = .ok (.aload_n 0, 1) := by decide +kernel
theorem dX0_serveNext_87 : decode cX0_serveNext 87 = .ok (.aload_n 0, 1) := by decide +kernel
theorem dX0_serveNext_88 : decode cX0_serveNext 88 = .ok (.getfield 63, 3) := by decide +kernel
theorem dX0_serveNext_91 : decode cX0_serveNext 91 = .ok (.aload_n 0, 1) := by decide +kernel
theorem dX0_serveNext_92 : decode cX0_serveNext 92 = .ok (.aload_n 2, 1) := by decide +kernel
theorem dX0_serveNext_93 : decode cX0_serveNext 93 = .ok (.invokevirtual 140, 3) := by decide +kernel
theorem dX0_serveNext_96 : decode cX0_serveNext 96 = .ok (.invokestatic 202, 3) := by decide +kernel
theorem dX0_serveNext_99 : decode cX0_serveNext 99 = .ok (.putfield 63, 3) := by decide +kernel
theorem dX0_serveNext_102 : decode cX0_serveNext 102 = .ok (.aload_n 0, 1) := by decide +kernel
theorem dX0_serveNext_103 : decode cX0_serveNext 103 = .ok (.getfield 21, 3) := by decide +kernel
theorem dX0_serveNext_106 : decode cX0_serveNext 106 = .ok (.aload_n 2, 1) := by decide +kernel
theorem dX0_serveNext_107 : decode cX0_serveNext 107 = .ok (.getfield 109, 3) := by decide +kernel
theorem dX0_serveNext_110 : decode cX0_serveNext 110 = .ok (.aload_n 0, 1) := by decide +kernel
theorem dX0_serveNext_111 : decode cX0_serveNext 111 = .ok (.aload_n 2, 1) := by decide +kernel
theorem dX0_serveNext_112 : decode cX0_serveNext 112 = .ok (.invokevirtual 140, 3) := by decide +kernel
theorem dX0_serveNext_115 : decode cX0_serveNext 115 = .ok (.aload_n 2, 1) := by decide +kernel
theorem dX0_serveNext_116 : decode cX0_serveNext 116 = .ok (.getfield 120, 3) := by decide +kernel
theorem dX0_serveNext_119 : decode cX0_serveNext 119 = .ok (.invokevirtual 205, 3) := by decide +kernel
theorem dX0_serveNext_122 : decode cX0_serveNext 122 = .ok (.return_, 1) := by decide +kernel
theorem dX0_beginBatch_0 : decode cX0_beginBatch 0 = .ok (.aload_n 0, 1) := by decide +kernel
theorem dX0_beginBatch_1 : decode cX0_beginBatch 1 = .ok (.dup, 1) := by decide +kernel
theorem dX0_beginBatch_2 : decode cX0_beginBatch 2 = .ok (.getfield 69, 3) := by decide +kernel
theorem dX0_beginBatch_5 : decode cX0_beginBatch 5 = .ok (.iconst 1, 1) := by decide +kernel
theorem dX0_beginBatch_6 : decode cX0_beginBatch 6 = .ok (.iadd, 1) := by decide +kernel
theorem dX0_beginBatch_7 : decode cX0_beginBatch 7 = .ok (.putfield 69, 3) := by decide +kernel
theorem dX0_beginBatch_10 : decode cX0_beginBatch 10 = .ok (.aload_n 0, 1) := by decide +kernel
theorem dX0_beginBatch_11 : decode cX0_beginBatch 11 = .ok (.iload_n 1, 1) := by decide +kernel
theorem dX0_beginBatch_12 : decode cX0_beginBatch 12 = .ok (.putfield 72, 3) := by decide +kernel
theorem dX0_beginBatch_15 : decode cX0_beginBatch 15 = .ok (.aload_n 0, 1) := by decide +kernel
theorem dX0_beginBatch_16 : decode cX0_beginBatch 16 = .ok (.iconst 0, 1) := by decide +kernel
theorem dX0_beginBatch_17 : decode cX0_beginBatch 17 = .ok (.putfield 75, 3) := by decide +kernel
theorem dX0_beginBatch_20 : decode cX0_beginBatch 20 = .ok (.iload_n 1, 1) := by decide +kernel
theorem dX0_beginBatch_21 : decode cX0_beginBatch 21 = .ok (.iconst 1, 1) := by decide +kernel
theorem dX0_beginBatch_22 : decode cX0_beginBatch 22 = .ok (.if_icmp .ne 11, 3) := by decide +kernel
theorem dX0_beginBatch_25 : decode cX0_beginBatch 25 = .ok (.aload_n 0, 1) := by decide +kernel
theorem dX0_beginBatch_26 : decode cX0_beginBatch 26 = .ok (.iconst 0, 1) := by decide +kernel
theorem dX0_beginBatch_27 : decode cX0_beginBatch 27 = .ok (.putfield 78, 3) := by decide +kernel
theorem dX0_beginBatch_30 : decode cX0_beginBatch 30 = .ok (.goto 20, 3) := by decide +kernel
theorem dX0_beginBatch_33 : decode cX0_beginBatch 33 = .ok (.aload_n 0, 1) := by decide +kernel
theorem dX0_beginBatch_34 : decode cX0_beginBatch 34 = .ok (.getfield 51, 3) := by decide +kernel
theorem dX0_beginBatch_37 : decode cX0_beginBatch 37 = .ok (.ifCond .le 13, 3) := by decide +kernel
theorem dX0_beginBatch_40 : decode cX0_beginBatch 40 = .ok (.aload_n 0, 1) := by decide +kernel
theorem dX0_beginBatch_41 : decode cX0_beginBatch 41 = .ok (.dup, 1) := by decide +kernel
theorem dX0_beginBatch_42 : decode cX0_beginBatch 42 = .ok (.getfield 78, 3) := by decide +kernel
theorem dX0_beginBatch_45 : decode cX0_beginBatch 45 = .ok (.iconst 1, 1) := by decide +kernel
theorem dX0_beginBatch_46 : decode cX0_beginBatch 46 = .ok (.iadd, 1) := by decide +kernel
theorem dX0_beginBatch_47 : decode cX0_beginBatch 47 = .ok (.putfield 78, 3) := by decide +kernel
theorem dX0_beginBatch_50 : decode cX0_beginBatch 50 = .ok (.return_, 1) := by decide +kernel
theorem dX1_init_0 : decode cX1_init 0 = .ok (.aload_n 0, 1) := by decide +kernel
theorem dX1_init_1 : decode cX1_init 1 = .ok (.invokespecial 3, 3) := by decide +kernel
theorem dX1_init_4 : decode cX1_init 4 = .ok (.aload_n 0, 1) := by decide +kernel
theorem dX1_init_5 : decode cX1_init 5 = .ok (.bipush 7, 2) := by decide +kernel
theorem dX1_init_7 : decode cX1_init 7 = .ok (.anewarray 9, 3) := by decide +kernel
theorem dX1_init_10 : decode cX1_init 10 = .ok (.putfield 11, 3) := by decide +kernel
theorem dX1_init_13 : decode cX1_init 13 = .ok (.iconst 0, 1) := by decide +kernel
theorem dX1_init_14 : decode cX1_init 14 = .ok (.istore_n 1, 1) := by decide +kernel
theorem dX1_init_15 : decode cX1_init 15 = .ok (.iload_n 1, 1) := by decide +kernel
theorem dX1_init_16 : decode cX1_init 16 = .ok (.aload_n 0, 1) := by decide +kernel
theorem dX1_init_17 : decode cX1_init 17 = .ok (.getfield 11, 3) := by decide +kernel
theorem dX1_init_20 : decode cX1_init 20 = .ok (.arraylength, 1) := by decide +kernel
theorem dX1_init_21 : decode cX1_init 21 = .ok (.if_icmp .ge 22, 3) := by decide +kernel
theorem dX1_init_24 : decode cX1_init 24 = .ok (.aload_n 0, 1) := by decide +kernel
theorem dX1_init_25 : decode cX1_init 25 = .ok (.getfield 11, 3) := by decide +kernel
theorem dX1_init_28 : decode cX1_init 28 = .ok (.iload_n 1, 1) := by decide +kernel
theorem dX1_init_29 : decode cX1_init 29 = .ok (.new 9, 3) := by decide +kernel
theorem dX1_init_32 : decode cX1_init 32 = .ok (.dup, 1) := by decide +kernel
theorem dX1_init_33 : decode cX1_init 33 = .ok (.invokespecial 15, 3) := by decide +kernel
theorem dX1_init_36 : decode cX1_init 36 = .ok (.aastore, 1) := by decide +kernel
theorem dX1_init_37 : decode cX1_init 37 = .ok (.iinc 1 1, 3) := by decide +kernel
theorem dX1_init_40 : decode cX1_init 40 = .ok (.goto (-25), 3) := by decide +kernel
theorem dX1_init_43 : decode cX1_init 43 = .ok (.return_, 1) := by decide +kernel
theorem dX1_stateAt_0 : decode cX1_stateAt 0 = .ok (.iload_n 1, 1) := by decide +kernel
theorem dX1_stateAt_1 : decode cX1_stateAt 1 = .ok (.ifCond .lt 21, 3) := by decide +kernel
theorem dX1_stateAt_4 : decode cX1_stateAt 4 = .ok (.iload_n 1, 1) := by decide +kernel
theorem dX1_stateAt_5 : decode cX1_stateAt 5 = .ok (.aload_n 0, 1) := by decide +kernel
theorem dX1_stateAt_6 : decode cX1_stateAt 6 = .ok (.getfield 11, 3) := by decide +kernel
theorem dX1_stateAt_9 : decode cX1_stateAt 9 = .ok (.arraylength, 1) := by decide +kernel
theorem dX1_stateAt_10 : decode cX1_stateAt 10 = .ok (.if_icmp .ge 12, 3) := by decide +kernel
theorem dX1_stateAt_13 : decode cX1_stateAt 13 = .ok (.aload_n 0, 1) := by decide +kernel
theorem dX1_stateAt_14 : decode cX1_stateAt 14 = .ok (.getfield 11, 3) := by decide +kernel
theorem dX1_stateAt_17 : decode cX1_stateAt 17 = .ok (.iload_n 1, 1) := by decide +kernel
theorem dX1_stateAt_18 : decode cX1_stateAt 18 = .ok (.aaload, 1) := by decide +kernel
theorem dX1_stateAt_19 : decode cX1_stateAt 19 = .ok (.goto 4, 3) := by decide +kernel
theorem dX1_stateAt_22 : decode cX1_stateAt 22 = .ok (.aconst_null, 1) := by decide +kernel
theorem dX1_stateAt_23 : decode cX1_stateAt 23 = .ok (.areturn, 1) := by decide +kernel
theorem dX1_prepare_0 : decode cX1_prepare 0 = .ok (.aload_n 0, 1) := by decide +kernel
theorem dX1_prepare_1 : decode cX1_prepare 1 = .ok (.aload_n 0, 1) := by decide +kernel
theorem dX1_prepare_2 : decode cX1_prepare 2 = .ok (.getfield 16, 3) := by decide +kernel
theorem dX1_prepare_5 : decode cX1_prepare 5 = .ok (.invokevirtual 20, 3) := by decide +kernel
theorem dX1_prepare_8 : decode cX1_prepare 8 = .ok (.astore_n 2, 1) := by decide +kernel
theorem dX1_prepare_9 : decode cX1_prepare 9 = .ok (.aload_n 2, 1) := by decide +kernel
theorem dX1_prepare_10 : decode cX1_prepare 10 = .ok (.ifnull 8, 3) := by decide +kernel
theorem dX1_prepare_13 : decode cX1_prepare 13 = .ok (.aload_n 2, 1) := by decide +kernel
theorem dX1_prepare_14 : decode cX1_prepare 14 = .ok (.aload_n 1, 1) := by decide +kernel
theorem dX1_prepare_15 : decode cX1_prepare 15 = .ok (.invokevirtual 24, 3) := by decide +kernel
theorem dX1_prepare_18 : decode cX1_prepare 18 = .ok (.return_, 1) := by decide +kernel
theorem dX1_keep_0 : decode cX1_keep 0 = .ok (.aload_n 0, 1) := by decide +kernel
theorem dX1_keep_1 : decode cX1_keep 1 = .ok (.aload_n 0, 1) := by decide +kernel
theorem dX1_keep_2 : decode cX1_keep 2 = .ok (.getfield 16, 3) := by decide +kernel
theorem dX1_keep_5 : decode cX1_keep 5 = .ok (.iconst 1, 1) := by decide +kernel
theorem dX1_keep_6 : decode cX1_keep 6 = .ok (.iadd, 1) := by decide +kernel
theorem dX1_keep_7 : decode cX1_keep 7 = .ok (.bipush 7, 2) := by decide +kernel
theorem dX1_keep_9 : decode cX1_keep 9 = .ok (.irem, 1) := by decide +kernel
theorem dX1_keep_10 : decode cX1_keep 10 = .ok (.putfield 16, 3) := by decide +kernel
theorem dX1_keep_13 : decode cX1_keep 13 = .ok (.aload_n 0, 1) := by decide +kernel
theorem dX1_keep_14 : decode cX1_keep 14 = .ok (.aload_n 0, 1) := by decide +kernel
theorem dX1_keep_15 : decode cX1_keep 15 = .ok (.getfield 28, 3) := by decide +kernel
theorem dX1_keep_18 : decode cX1_keep 18 = .ok (.iconst 1, 1) := by decide +kernel
theorem dX1_keep_19 : decode cX1_keep 19 = .ok (.iadd, 1) := by decide +kernel
theorem dX1_keep_20 : decode cX1_keep 20 = .ok (.bipush 6, 2) := by decide +kernel
theorem dX1_keep_22 : decode cX1_keep 22 = .ok (.invokestatic 31, 3) := by decide +kernel
theorem dX1_keep_25 : decode cX1_keep 25 = .ok (.putfield 28, 3) := by decide +kernel
theorem dX1_keep_28 : decode cX1_keep 28 = .ok (.return_, 1) := by decide +kernel
theorem dX2_init_0 : decode cX2_init 0 = .ok (.aload_n 0, 1) := by decide +kernel
theorem dX2_init_1 : decode cX2_init 1 = .ok (.invokespecial 1, 3) := by decide +kernel
theorem dX2_init_4 : decode cX2_init 4 = .ok (.aload_n 0, 1) := by decide +kernel
theorem dX2_init_5 : decode cX2_init 5 = .ok (.bipush 20, 2) := by decide +kernel
theorem dX2_init_7 : decode cX2_init 7 = .ok (.newarray .int, 2) := by decide +kernel
theorem dX2_init_9 : decode cX2_init 9 = .ok (.putfield 9, 3) := by decide +kernel
theorem dX2_init_12 : decode cX2_init 12 = .ok (.aload_n 0, 1) := by decide +kernel
theorem dX2_init_13 : decode cX2_init 13 = .ok (.bipush 20, 2) := by decide +kernel
theorem dX2_init_15 : decode cX2_init 15 = .ok (.newarray .int, 2) := by decide +kernel
theorem dX2_init_17 : decode cX2_init 17 = .ok (.putfield 13, 3) := by decide +kernel
theorem dX2_init_20 : decode cX2_init 20 = .ok (.aload_n 0, 1) := by decide +kernel
theorem dX2_init_21 : decode cX2_init 21 = .ok (.bipush 20, 2) := by decide +kernel
theorem dX2_init_23 : decode cX2_init 23 = .ok (.newarray .int, 2) := by decide +kernel
theorem dX2_init_25 : decode cX2_init 25 = .ok (.putfield 16, 3) := by decide +kernel
theorem dX2_init_28 : decode cX2_init 28 = .ok (.return_, 1) := by decide +kernel
theorem dX2_copyFrom_0 : decode cX2_copyFrom 0 = .ok (.aload_n 1, 1) := by decide +kernel
theorem dX2_copyFrom_1 : decode cX2_copyFrom 1 = .ok (.getfield 9, 3) := by decide +kernel
theorem dX2_copyFrom_4 : decode cX2_copyFrom 4 = .ok (.aload_n 0, 1) := by decide +kernel
theorem dX2_copyFrom_5 : decode cX2_copyFrom 5 = .ok (.getfield 9, 3) := by decide +kernel
theorem dX2_copyFrom_8 : decode cX2_copyFrom 8 = .ok (.invokestatic 19, 3) := by decide +kernel
theorem dX2_copyFrom_11 : decode cX2_copyFrom 11 = .ok (.aload_n 1, 1) := by decide +kernel
theorem dX2_copyFrom_12 : decode cX2_copyFrom 12 = .ok (.getfield 13, 3) := by decide +kernel
theorem dX2_copyFrom_15 : decode cX2_copyFrom 15 = .ok (.aload_n 0, 1) := by decide +kernel
theorem dX2_copyFrom_16 : decode cX2_copyFrom 16 = .ok (.getfield 13, 3) := by decide +kernel
theorem dX2_copyFrom_19 : decode cX2_copyFrom 19 = .ok (.invokestatic 19, 3) := by decide +kernel
theorem dX2_copyFrom_22 : decode cX2_copyFrom 22 = .ok (.aload_n 1, 1) := by decide +kernel
theorem dX2_copyFrom_23 : decode cX2_copyFrom 23 = .ok (.getfield 16, 3) := by decide +kernel
theorem dX2_copyFrom_26 : decode cX2_copyFrom 26 = .ok (.aload_n 0, 1) := by decide +kernel
theorem dX2_copyFrom_27 : decode cX2_copyFrom 27 = .ok (.getfield 16, 3) := by decide +kernel
theorem dX2_copyFrom_30 : decode cX2_copyFrom 30 = .ok (.invokestatic 19, 3) := by decide +kernel
theorem dX2_copyFrom_33 : decode cX2_copyFrom 33 = .ok (.aload_n 0, 1) := by decide +kernel
theorem dX2_copyFrom_34 : decode cX2_copyFrom 34 = .ok (.aload_n 1, 1) := by decide +kernel
theorem dX2_copyFrom_35 : decode cX2_copyFrom 35 = .ok (.getfield 25, 3) := by decide +kernel
theorem dX2_copyFrom_38 : decode cX2_copyFrom 38 = .ok (.putfield 25, 3) := by decide +kernel
theorem dX2_copyFrom_41 : decode cX2_copyFrom 41 = .ok (.return_, 1) := by decide +kernel
theorem dX2_append_0 : decode cX2_append 0 = .ok (.aload_n 0, 1) := by decide +kernel
theorem dX2_append_1 : decode cX2_append 1 = .ok (.getfield 25, 3) := by decide +kernel
theorem dX2_append_4 : decode cX2_append 4 = .ok (.bipush 20, 2) := by decide +kernel
theorem dX2_append_6 : decode cX2_append 6 = .ok (.irem, 1) := by decide +kernel
theorem dX2_append_7 : decode cX2_append 7 = .ok (.istore 4, 2) := by decide +kernel
theorem dX2_append_9 : decode cX2_append 9 = .ok (.aload_n 0, 1) := by decide +kernel
theorem dX2_append_10 : decode cX2_append 10 = .ok (.getfield 9, 3) := by decide +kernel
theorem dX2_append_13 : decode cX2_append 13 = .ok (.iload 4, 2) := by decide +kernel
theorem dX2_append_15 : decode cX2_append 15 = .ok (.invokestatic 29, 3) := by decide +kernel
theorem dX2_append_18 : decode cX2_append 18 = .ok (.ifCond .eq 61, 3) := by decide +kernel
theorem dX2_append_21 : decode cX2_append 21 = .ok (.aload_n 0, 1) := by decide +kernel
theorem dX2_append_22 : decode cX2_append 22 = .ok (.getfield 13, 3) := by decide +kernel
theorem dX2_append_25 : decode cX2_append 25 = .ok (.iload 4, 2) := by decide +kernel
theorem dX2_append_27 : decode cX2_append 27 = .ok (.invokestatic 29, 3) := by decide +kernel
theorem dX2_append_30 : decode cX2_append 30 = .ok (.ifCond .eq 49, 3) := by decide +kernel
theorem dX2_append_33 : decode cX2_append 33 = .ok (.aload_n 0, 1) := by decide +kernel
theorem dX2_append_34 : decode cX2_append 34 = .ok (.getfield 16, 3) := by decide +kernel
theorem dX2_append_37 : decode cX2_append 37 = .ok (.iload 4, 2) := by decide +kernel
theorem dX2_append_39 : decode cX2_append 39 = .ok (.invokestatic 29, 3) := by decide +kernel
theorem dX2_append_42 : decode cX2_append 42 = .ok (.ifCond .eq 37, 3) := by decide +kernel
theorem dX2_append_45 : decode cX2_append 45 = .ok (.aload_n 0, 1) := by decide +kernel
theorem dX2_append_46 : decode cX2_append 46 = .ok (.getfield 9, 3) := by decide +kernel
theorem dX2_append_49 : decode cX2_append 49 = .ok (.iload 4, 2) := by decide +kernel
theorem dX2_append_51 : decode cX2_append 51 = .ok (.iload_n 1, 1) := by decide +kernel
theorem dX2_append_52 : decode cX2_append 52 = .ok (.iastore, 1) := by decide +kernel
theorem dX2_append_53 : decode cX2_append 53 = .ok (.aload_n 0, 1) := by decide +kernel
theorem dX2_append_54 : decode cX2_append 54 = .ok (.getfield 13, 3) := by decide +kernel
theorem dX2_append_57 : decode cX2_append 57 = .ok (.iload 4, 2) := by decide +kernel
theorem dX2_append_59 : decode cX2_append 59 = .ok (.iload_n 2, 1) := by decide +kernel
theorem dX2_append_60 : decode cX2_append 60 = .ok (.iastore, 1) := by decide +kernel
theorem dX2_append_61 : decode cX2_append 61 = .ok (.aload_n 0, 1) := by decide +kernel
theorem dX2_append_62 : decode cX2_append 62 = .ok (.getfield 16, 3) := by decide +kernel
theorem dX2_append_65 : decode cX2_append 65 = .ok (.iload 4, 2) := by decide +kernel
theorem dX2_append_67 : decode cX2_append 67 = .ok (.iload_n 3, 1) := by decide +kernel
theorem dX2_append_68 : decode cX2_append 68 = .ok (.iastore, 1) := by decide +kernel
theorem dX2_append_69 : decode cX2_append 69 = .ok (.aload_n 0, 1) := by decide +kernel
theorem dX2_append_70 : decode cX2_append 70 = .ok (.dup, 1) := by decide +kernel
theorem dX2_append_71 : decode cX2_append 71 = .ok (.getfield 25, 3) := by decide +kernel
theorem dX2_append_74 : decode cX2_append 74 = .ok (.iconst 1, 1) := by decide +kernel
theorem dX2_append_75 : decode cX2_append 75 = .ok (.iadd, 1) := by decide +kernel
theorem dX2_append_76 : decode cX2_append 76 = .ok (.putfield 25, 3) := by decide +kernel
theorem dX2_append_79 : decode cX2_append 79 = .ok (.return_, 1) := by decide +kernel
theorem dX2_has_0 : decode cX2_has 0 = .ok (.iload_n 1, 1) := by decide +kernel
theorem dX2_has_1 : decode cX2_has 1 = .ok (.ifCond .lt 21, 3) := by decide +kernel
theorem dX2_has_4 : decode cX2_has 4 = .ok (.iload_n 1, 1) := by decide +kernel
theorem dX2_has_5 : decode cX2_has 5 = .ok (.bipush 20, 2) := by decide +kernel
theorem dX2_has_7 : decode cX2_has 7 = .ok (.if_icmp .ge 15, 3) := by decide +kernel
theorem dX2_has_10 : decode cX2_has 10 = .ok (.iload_n 1, 1) := by decide +kernel
theorem dX2_has_11 : decode cX2_has 11 = .ok (.aload_n 0, 1) := by decide +kernel
theorem dX2_has_12 : decode cX2_has 12 = .ok (.getfield 25, 3) := by decide +kernel
theorem dX2_has_15 : decode cX2_has 15 = .ok (.if_icmp .ge 7, 3) := by decide +kernel
theorem dX2_has_18 : decode cX2_has 18 = .ok (.iconst 1, 1) := by decide +kernel
theorem dX2_has_19 : decode cX2_has 19 = .ok (.goto 4, 3) := by decide +kernel
theorem dX2_has_22 : decode cX2_has 22 = .ok (.iconst 0, 1) := by decide +kernel
theorem dX2_has_23 : decode cX2_has 23 = .ok (.ireturn, 1) := by decide +kernel
theorem dX2_numberOf_0 : decode cX2_numberOf 0 = .ok (.aload_n 0, 1) := by decide +kernel
theorem dX2_numberOf_1 : decode cX2_numberOf 1 = .ok (.getfield 9, 3) := by decide +kernel
theorem dX2_numberOf_4 : decode cX2_numberOf 4 = .ok (.aload_n 0, 1) := by decide +kernel
theorem dX2_numberOf_5 : decode cX2_numberOf 5 = .ok (.iload_n 1, 1) := by decide +kernel
theorem dX2_numberOf_6 : decode cX2_numberOf 6 = .ok (.invokevirtual 33, 3) := by decide +kernel
theorem dX2_numberOf_9 : decode cX2_numberOf 9 = .ok (.invokestatic 37, 3) := by decide +kernel
theorem dX2_numberOf_12 : decode cX2_numberOf 12 = .ok (.ireturn, 1) := by decide +kernel
theorem dX2_waitOf_0 : decode cX2_waitOf 0 = .ok (.aload_n 0, 1) := by decide +kernel
theorem dX2_waitOf_1 : decode cX2_waitOf 1 = .ok (.getfield 13, 3) := by decide +kernel
theorem dX2_waitOf_4 : decode cX2_waitOf 4 = .ok (.aload_n 0, 1) := by decide +kernel
theorem dX2_waitOf_5 : decode cX2_waitOf 5 = .ok (.iload_n 1, 1) := by decide +kernel
theorem dX2_waitOf_6 : decode cX2_waitOf 6 = .ok (.invokevirtual 33, 3) := by decide +kernel
theorem dX2_waitOf_9 : decode cX2_waitOf 9 = .ok (.invokestatic 37, 3) := by decide +kernel
theorem dX2_waitOf_12 : decode cX2_waitOf 12 = .ok (.ireturn, 1) := by decide +kernel
theorem dX2_sortOf_0 : decode cX2_sortOf 0 = .ok (.aload_n 0, 1) := by decide +kernel
theorem dX2_sortOf_1 : decode cX2_sortOf 1 = .ok (.getfield 16, 3) := by decide +kernel
theorem dX2_sortOf_4 : decode cX2_sortOf 4 = .ok (.aload_n 0, 1) := by decide +kernel
theorem dX2_sortOf_5 : decode cX2_sortOf 5 = .ok (.iload_n 1, 1) := by decide +kernel
theorem dX2_sortOf_6 : decode cX2_sortOf 6 = .ok (.invokevirtual 33, 3) := by decide +kernel
theorem dX2_sortOf_9 : decode cX2_sortOf 9 = .ok (.invokestatic 37, 3) := by decide +kernel
theorem dX2_sortOf_12 : decode cX2_sortOf 12 = .ok (.ireturn, 1) := by decide +kernel
theorem dX2_place_0 : decode cX2_place 0 = .ok (.aload_n 0, 1) := by decide +kernel
theorem dX2_place_1 : decode cX2_place 1 = .ok (.getfield 25, 3) := by decide +kernel
theorem dX2_place_4 : decode cX2_place 4 = .ok (.iconst 1, 1) := by decide +kernel
theorem dX2_place_5 : decode cX2_place 5 = .ok (.isub, 1) := by decide +kernel
theorem dX2_place_6 : decode cX2_place 6 = .ok (.iload_n 1, 1) := by decide +kernel
theorem dX2_place_7 : decode cX2_place 7 = .ok (.isub, 1) := by decide +kernel
theorem dX2_place_8 : decode cX2_place 8 = .ok (.bipush 20, 2) := by decide +kernel
theorem dX2_place_10 : decode cX2_place 10 = .ok (.irem, 1) := by decide +kernel
theorem dX2_place_11 : decode cX2_place 11 = .ok (.ireturn, 1) := by decide +kernel
theorem dX3_init_0 : decode cX3_init 0 = .ok (.aload_n 0, 1) := by decide +kernel
theorem dX3_init_1 : decode cX3_init 1 = .ok (.invokespecial 3, 3) := by decide +kernel
theorem dX3_init_4 : decode cX3_init 4 = .ok (.aload_n 0, 1) := by decide +kernel
theorem dX3_init_5 : decode cX3_init 5 = .ok (.bipush 80, 2) := by decide +kernel
theorem dX3_init_7 : decode cX3_init 7 = .ok (.newarray .int, 2) := by decide +kernel
theorem dX3_init_9 : decode cX3_init 9 = .ok (.putfield 11, 3) := by decide +kernel
theorem dX3_init_12 : decode cX3_init 12 = .ok (.return_, 1) := by decide +kernel
theorem dX4_init_0 : decode cX4_init 0 = .ok (.aload_n 0, 1) := by decide +kernel
theorem dX4_init_1 : decode cX4_init 1 = .ok (.invokespecial 3, 3) := by decide +kernel
theorem dX4_init_4 : decode cX4_init 4 = .ok (.aload_n 0, 1) := by decide +kernel
theorem dX4_init_5 : decode cX4_init 5 = .ok (.aload_n 1, 1) := by decide +kernel
theorem dX4_init_6 : decode cX4_init 6 = .ok (.putfield 9, 3) := by decide +kernel
theorem dX4_init_9 : decode cX4_init 9 = .ok (.return_, 1) := by decide +kernel
theorem dX5_init_0 : decode cX5_init 0 = .ok (.aload_n 0, 1) := by decide +kernel
theorem dX5_init_1 : decode cX5_init 1 = .ok (.invokespecial 1, 3) := by decide +kernel
theorem dX5_init_4 : decode cX5_init 4 = .ok (.aload_n 0, 1) := by decide +kernel
theorem dX5_init_5 : decode cX5_init 5 = .ok (.aload_n 1, 1) := by decide +kernel
theorem dX5_init_6 : decode cX5_init 6 = .ok (.putfield 7, 3) := by decide +kernel
theorem dX5_init_9 : decode cX5_init 9 = .ok (.return_, 1) := by decide +kernel
theorem dX5_copyFrom_0 : decode cX5_copyFrom 0 = .ok (.aload_n 0, 1) := by decide +kernel
theorem dX5_copyFrom_1 : decode cX5_copyFrom 1 = .ok (.aload_n 1, 1) := by decide +kernel
theorem dX5_copyFrom_2 : decode cX5_copyFrom 2 = .ok (.getfield 13, 3) := by decide +kernel
theorem dX5_copyFrom_5 : decode cX5_copyFrom 5 = .ok (.putfield 13, 3) := by decide +kernel
theorem dX5_copyFrom_8 : decode cX5_copyFrom 8 = .ok (.aload_n 0, 1) := by decide +kernel
theorem dX5_copyFrom_9 : decode cX5_copyFrom 9 = .ok (.aload_n 1, 1) := by decide +kernel
theorem dX5_copyFrom_10 : decode cX5_copyFrom 10 = .ok (.getfield 17, 3) := by decide +kernel
theorem dX5_copyFrom_13 : decode cX5_copyFrom 13 = .ok (.putfield 17, 3) := by decide +kernel
theorem dX5_copyFrom_16 : decode cX5_copyFrom 16 = .ok (.aload_n 0, 1) := by decide +kernel
theorem dX5_copyFrom_17 : decode cX5_copyFrom 17 = .ok (.aload_n 1, 1) := by decide +kernel
theorem dX5_copyFrom_18 : decode cX5_copyFrom 18 = .ok (.getfield 21, 3) := by decide +kernel
theorem dX5_copyFrom_21 : decode cX5_copyFrom 21 = .ok (.putfield 21, 3) := by decide +kernel
theorem dX5_copyFrom_24 : decode cX5_copyFrom 24 = .ok (.aload_n 0, 1) := by decide +kernel
theorem dX5_copyFrom_25 : decode cX5_copyFrom 25 = .ok (.aload_n 1, 1) := by decide +kernel
theorem dX5_copyFrom_26 : decode cX5_copyFrom 26 = .ok (.getfield 24, 3) := by decide +kernel
theorem dX5_copyFrom_29 : decode cX5_copyFrom 29 = .ok (.putfield 24, 3) := by decide +kernel
theorem dX5_copyFrom_32 : decode cX5_copyFrom 32 = .ok (.aload_n 0, 1) := by decide +kernel
theorem dX5_copyFrom_33 : decode cX5_copyFrom 33 = .ok (.aload_n 1, 1) := by decide +kernel
theorem dX5_copyFrom_34 : decode cX5_copyFrom 34 = .ok (.getfield 27, 3) := by decide +kernel
theorem dX5_copyFrom_37 : decode cX5_copyFrom 37 = .ok (.putfield 27, 3) := by decide +kernel
theorem dX5_copyFrom_40 : decode cX5_copyFrom 40 = .ok (.aload_n 0, 1) := by decide +kernel
theorem dX5_copyFrom_41 : decode cX5_copyFrom 41 = .ok (.aload_n 1, 1) := by decide +kernel
theorem dX5_copyFrom_42 : decode cX5_copyFrom 42 = .ok (.getfield 30, 3) := by decide +kernel
theorem dX5_copyFrom_45 : decode cX5_copyFrom 45 = .ok (.putfield 30, 3) := by decide +kernel
theorem dX5_copyFrom_48 : decode cX5_copyFrom 48 = .ok (.aload_n 0, 1) := by decide +kernel
theorem dX5_copyFrom_49 : decode cX5_copyFrom 49 = .ok (.aload_n 1, 1) := by decide +kernel
theorem dX5_copyFrom_50 : decode cX5_copyFrom 50 = .ok (.getfield 33, 3) := by decide +kernel
theorem dX5_copyFrom_53 : decode cX5_copyFrom 53 = .ok (.putfield 33, 3) := by decide +kernel
theorem dX5_copyFrom_56 : decode cX5_copyFrom 56 = .ok (.return_, 1) := by decide +kernel
theorem dX5_last_0 : decode cX5_last 0 = .ok (.aload_n 0, 1) := by decide +kernel
theorem dX5_last_1 : decode cX5_last 1 = .ok (.getfield 24, 3) := by decide +kernel
theorem dX5_last_4 : decode cX5_last 4 = .ok (.aload_n 0, 1) := by decide +kernel
theorem dX5_last_5 : decode cX5_last 5 = .ok (.getfield 27, 3) := by decide +kernel
theorem dX5_last_8 : decode cX5_last 8 = .ok (.iadd, 1) := by decide +kernel
theorem dX5_last_9 : decode cX5_last 9 = .ok (.iconst 1, 1) := by decide +kernel
theorem dX5_last_10 : decode cX5_last 10 = .ok (.isub, 1) := by decide +kernel
theorem dX5_last_11 : decode cX5_last 11 = .ok (.ireturn, 1) := by decide +kernel
theorem dX5_isOfSort_0 : decode cX5_isOfSort 0 = .ok (.aload_n 0, 1) := by decide +kernel
theorem dX5_isOfSort_1 : decode cX5_isOfSort 1 = .ok (.getfield 13, 3) := by decide +kernel
theorem dX5_isOfSort_4 : decode cX5_isOfSort 4 = .ok (.ifCond .eq 15, 3) := by decide +kernel
theorem dX5_isOfSort_7 : decode cX5_isOfSort 7 = .ok (.aload_n 0, 1) := by decide +kernel
theorem dX5_isOfSort_8 : decode cX5_isOfSort 8 = .ok (.getfield 21, 3) := by decide +kernel
theorem dX5_isOfSort_11 : decode cX5_isOfSort 11 = .ok (.iload_n 1, 1) := by decide +kernel
theorem dX5_isOfSort_12 : decode cX5_isOfSort 12 = .ok (.if_icmp .ne 7, 3) := by decide +kernel
theorem dX5_isOfSort_15 : decode cX5_isOfSort 15 = .ok (.iconst 1, 1) := by decide +kernel
theorem dX5_isOfSort_16 : decode cX5_isOfSort 16 = .ok (.goto 4, 3) := by decide +kernel
theorem dX5_isOfSort_19 : decode cX5_isOfSort 19 = .ok (.iconst 0, 1) := by decide +kernel
theorem dX5_isOfSort_20 : decode cX5_isOfSort 20 = .ok (.ireturn, 1) := by decide +kernel
theorem dX5_isAheadOf_0 : decode cX5_isAheadOf 0 = .ok (.aload_n 0, 1) := by decide +kernel
theorem dX5_isAheadOf_1 : decode cX5_isAheadOf 1 = .ok (.getfield 24, 3) := by decide +kernel
theorem dX5_isAheadOf_4 : decode cX5_isAheadOf 4 = .ok (.aload_n 1, 1) := by decide +kernel
theorem dX5_isAheadOf_5 : decode cX5_isAheadOf 5 = .ok (.getfield 24, 3) := by decide +kernel
theorem dX5_isAheadOf_8 : decode cX5_isAheadOf 8 = .ok (.if_icmp .lt 25, 3) := by decide +kernel
theorem dX5_isAheadOf_11 : decode cX5_isAheadOf 11 = .ok (.aload_n 0, 1) := by decide +kernel
theorem dX5_isAheadOf_12 : decode cX5_isAheadOf 12 = .ok (.getfield 24, 3) := by decide +kernel
theorem dX5_isAheadOf_15 : decode cX5_isAheadOf 15 = .ok (.aload_n 1, 1) := by decide +kernel
theorem dX5_isAheadOf_16 : decode cX5_isAheadOf 16 = .ok (.getfield 24, 3) := by decide +kernel
theorem dX5_isAheadOf_19 : decode cX5_isAheadOf 19 = .ok (.if_icmp .ne 18, 3) := by decide +kernel
theorem dX5_isAheadOf_22 : decode cX5_isAheadOf 22 = .ok (.aload_n 0, 1) := by decide +kernel
theorem dX5_isAheadOf_23 : decode cX5_isAheadOf 23 = .ok (.getfield 17, 3) := by decide +kernel
theorem dX5_isAheadOf_26 : decode cX5_isAheadOf 26 = .ok (.aload_n 1, 1) := by decide +kernel
theorem dX5_isAheadOf_27 : decode cX5_isAheadOf 27 = .ok (.getfield 17, 3) := by decide +kernel
theorem dX5_isAheadOf_30 : decode cX5_isAheadOf 30 = .ok (.if_icmp .ge 7, 3) := by decide +kernel
theorem dX5_isAheadOf_33 : decode cX5_isAheadOf 33 = .ok (.iconst 1, 1) := by decide +kernel
theorem dX5_isAheadOf_34 : decode cX5_isAheadOf 34 = .ok (.goto 4, 3) := by decide +kernel
theorem dX5_isAheadOf_37 : decode cX5_isAheadOf 37 = .ok (.iconst 0, 1) := by decide +kernel
theorem dX5_isAheadOf_38 : decode cX5_isAheadOf 38 = .ok (.ireturn, 1) := by decide +kernel
theorem dX6_init_0 : decode cX6_init 0 = .ok (.aload_n 0, 1) := by decide +kernel
theorem dX6_init_1 : decode cX6_init 1 = .ok (.invokespecial 1, 3) := by decide +kernel
theorem dX6_init_4 : decode cX6_init 4 = .ok (.aload_n 0, 1) := by decide +kernel
theorem dX6_init_5 : decode cX6_init 5 = .ok (.new 7, 3) := by decide +kernel
theorem dX6_init_8 : decode cX6_init 8 = .ok (.dup, 1) := by decide +kernel
theorem dX6_init_9 : decode cX6_init 9 = .ok (.invokespecial 9, 3) := by decide +kernel
theorem dX6_init_12 : decode cX6_init 12 = .ok (.putfield 10, 3) := by decide +kernel
theorem dX6_init_15 : decode cX6_init 15 = .ok (.return_, 1) := by decide +kernel
theorem dX7_init_0 : decode cX7_init 0 = .ok (.aload_n 0, 1) := by decide +kernel
theorem dX7_init_1 : decode cX7_init 1 = .ok (.invokespecial 1, 3) := by decide +kernel
theorem dX7_init_4 : decode cX7_init 4 = .ok (.aload_n 0, 1) := by decide +kernel
theorem dX7_init_5 : decode cX7_init 5 = .ok (.new 7, 3) := by decide +kernel
theorem dX7_init_8 : decode cX7_init 8 = .ok (.dup, 1) := by decide +kernel
theorem dX7_init_9 : decode cX7_init 9 = .ok (.invokespecial 9, 3) := by decide +kernel
theorem dX7_init_12 : decode cX7_init 12 = .ok (.putfield 10, 3) := by decide +kernel
theorem dX7_init_15 : decode cX7_init 15 = .ok (.aload_n 0, 1) := by decide +kernel
theorem dX7_init_16 : decode cX7_init 16 = .ok (.new 7, 3) := by decide +kernel
theorem dX7_init_19 : decode cX7_init 19 = .ok (.dup, 1) := by decide +kernel
theorem dX7_init_20 : decode cX7_init 20 = .ok (.invokespecial 9, 3) := by decide +kernel
theorem dX7_init_23 : decode cX7_init 23 = .ok (.putfield 16, 3) := by decide +kernel
theorem dX7_init_26 : decode cX7_init 26 = .ok (.aload_n 0, 1) := by decide +kernel
theorem dX7_init_27 : decode cX7_init 27 = .ok (.new 19, 3) := by decide +kernel
theorem dX7_init_30 : decode cX7_init 30 = .ok (.dup, 1) := by decide +kernel
theorem dX7_init_31 : decode cX7_init 31 = .ok (.invokespecial 21, 3) := by decide +kernel
theorem dX7_init_34 : decode cX7_init 34 = .ok (.putfield 22, 3) := by decide +kernel
theorem dX7_init_37 : decode cX7_init 37 = .ok (.aload_n 0, 1) := by decide +kernel
theorem dX7_init_38 : decode cX7_init 38 = .ok (.new 26, 3) := by decide +kernel
theorem dX7_init_41 : decode cX7_init 41 = .ok (.dup, 1) := by decide +kernel
theorem dX7_init_42 : decode cX7_init 42 = .ok (.invokespecial 28, 3) := by decide +kernel
theorem dX7_init_45 : decode cX7_init 45 = .ok (.putfield 29, 3) := by decide +kernel
theorem dX7_init_48 : decode cX7_init 48 = .ok (.aload_n 0, 1) := by decide +kernel
theorem dX7_init_49 : decode cX7_init 49 = .ok (.new 26, 3) := by decide +kernel
theorem dX7_init_52 : decode cX7_init 52 = .ok (.dup, 1) := by decide +kernel
theorem dX7_init_53 : decode cX7_init 53 = .ok (.invokespecial 28, 3) := by decide +kernel
theorem dX7_init_56 : decode cX7_init 56 = .ok (.putfield 33, 3) := by decide +kernel
theorem dX7_init_59 : decode cX7_init 59 = .ok (.aload_n 0, 1) := by decide +kernel
theorem dX7_init_60 : decode cX7_init 60 = .ok (.new 36, 3) := by decide +kernel
theorem dX7_init_63 : decode cX7_init 63 = .ok (.dup, 1) := by decide +kernel
theorem dX7_init_64 : decode cX7_init 64 = .ok (.invokespecial 38, 3) := by decide +kernel
theorem dX7_init_67 : decode cX7_init 67 = .ok (.putfield 39, 3) := by decide +kernel
theorem dX7_init_70 : decode cX7_init 70 = .ok (.aload_n 0, 1) := by decide +kernel
theorem dX7_init_71 : decode cX7_init 71 = .ok (.new 43, 3) := by decide +kernel
theorem dX7_init_74 : decode cX7_init 74 = .ok (.dup, 1) := by decide +kernel
theorem dX7_init_75 : decode cX7_init 75 = .ok (.aload_n 0, 1) := by decide +kernel
theorem dX7_init_76 : decode cX7_init 76 = .ok (.getfield 39, 3) := by decide +kernel
theorem dX7_init_79 : decode cX7_init 79 = .ok (.invokespecial 45, 3) := by decide +kernel
theorem dX7_init_82 : decode cX7_init 82 = .ok (.putfield 48, 3) := by decide +kernel
theorem dX7_init_85 : decode cX7_init 85 = .ok (.return_, 1) := by decide +kernel
theorem dX7_set_0 : decode cX7_set 0 = .ok (.aload_n 0, 1) := by decide +kernel
theorem dX7_set_1 : decode cX7_set 1 = .ok (.getfield 22, 3) := by decide +kernel
theorem dX7_set_4 : decode cX7_set 4 = .ok (.aload_n 0, 1) := by decide +kernel
theorem dX7_set_5 : decode cX7_set 5 = .ok (.getfield 10, 3) := by decide +kernel
theorem dX7_set_8 : decode cX7_set 8 = .ok (.invokevirtual 52, 3) := by decide +kernel
theorem dX7_set_11 : decode cX7_set 11 = .ok (.aload_n 0, 1) := by decide +kernel
theorem dX7_set_12 : decode cX7_set 12 = .ok (.aload_n 0, 1) := by decide +kernel
theorem dX7_set_13 : decode cX7_set 13 = .ok (.getfield 10, 3) := by decide +kernel
theorem dX7_set_16 : decode cX7_set 16 = .ok (.iload_n 1, 1) := by decide +kernel
theorem dX7_set_17 : decode cX7_set 17 = .ok (.iload_n 2, 1) := by decide +kernel
theorem dX7_set_18 : decode cX7_set 18 = .ok (.invokevirtual 56, 3) := by decide +kernel
theorem dX7_set_21 : decode cX7_set 21 = .ok (.invokevirtual 60, 3) := by decide +kernel
theorem dX7_set_24 : decode cX7_set 24 = .ok (.ireturn, 1) := by decide +kernel
theorem dX7_slip_0 : decode cX7_slip 0 = .ok (.aload_n 0, 1) := by decide +kernel
theorem dX7_slip_1 : decode cX7_slip 1 = .ok (.getfield 22, 3) := by decide +kernel
theorem dX7_slip_4 : decode cX7_slip 4 = .ok (.aload_n 0, 1) := by decide +kernel
theorem dX7_slip_5 : decode cX7_slip 5 = .ok (.getfield 10, 3) := by decide +kernel
theorem dX7_slip_8 : decode cX7_slip 8 = .ok (.invokevirtual 52, 3) := by decide +kernel
theorem dX7_slip_11 : decode cX7_slip 11 = .ok (.aload_n 0, 1) := by decide +kernel
theorem dX7_slip_12 : decode cX7_slip 12 = .ok (.aload_n 0, 1) := by decide +kernel
theorem dX7_slip_13 : decode cX7_slip 13 = .ok (.getfield 10, 3) := by decide +kernel
theorem dX7_slip_16 : decode cX7_slip 16 = .ok (.iload_n 1, 1) := by decide +kernel
theorem dX7_slip_17 : decode cX7_slip 17 = .ok (.iload_n 2, 1) := by decide +kernel
theorem dX7_slip_18 : decode cX7_slip 18 = .ok (.iload_n 3, 1) := by decide +kernel
theorem dX7_slip_19 : decode cX7_slip 19 = .ok (.invokevirtual 64, 3) := by decide +kernel
theorem dX7_slip_22 : decode cX7_slip 22 = .ok (.invokevirtual 60, 3) := by decide +kernel
theorem dX7_slip_25 : decode cX7_slip 25 = .ok (.ireturn, 1) := by decide +kernel
theorem dX7_tear_0 : decode cX7_tear 0 = .ok (.aload_n 0, 1) := by decide +kernel
theorem dX7_tear_1 : decode cX7_tear 1 = .ok (.getfield 22, 3) := by decide +kernel
theorem dX7_tear_4 : decode cX7_tear 4 = .ok (.aload_n 0, 1) := by decide +kernel
theorem dX7_tear_5 : decode cX7_tear 5 = .ok (.getfield 10, 3) := by decide +kernel
theorem dX7_tear_8 : decode cX7_tear 8 = .ok (.invokevirtual 52, 3) := by decide +kernel
theorem dX7_tear_11 : decode cX7_tear 11 = .ok (.aload_n 0, 1) := by decide +kernel
theorem dX7_tear_12 : decode cX7_tear 12 = .ok (.aload_n 0, 1) := by decide +kernel
theorem dX7_tear_13 : decode cX7_tear 13 = .ok (.getfield 10, 3) := by decide +kernel
theorem dX7_tear_16 : decode cX7_tear 16 = .ok (.iload_n 1, 1) := by decide +kernel
theorem dX7_tear_17 : decode cX7_tear 17 = .ok (.invokevirtual 68, 3) := by decide +kernel
theorem dX7_tear_20 : decode cX7_tear 20 = .ok (.invokevirtual 60, 3) := by decide +kernel
theorem dX7_tear_23 : decode cX7_tear 23 = .ok (.ireturn, 1) := by decide +kernel
theorem dX7_serve_0 : decode cX7_serve 0 = .ok (.aload_n 0, 1) := by decide +kernel
theorem dX7_serve_1 : decode cX7_serve 1 = .ok (.getfield 22, 3) := by decide +kernel
theorem dX7_serve_4 : decode cX7_serve 4 = .ok (.aload_n 0, 1) := by decide +kernel
theorem dX7_serve_5 : decode cX7_serve 5 = .ok (.getfield 10, 3) := by decide +kernel
theorem dX7_serve_8 : decode cX7_serve 8 = .ok (.invokevirtual 52, 3) := by decide +kernel
theorem dX7_serve_11 : decode cX7_serve 11 = .ok (.aload_n 0, 1) := by decide +kernel
theorem dX7_serve_12 : decode cX7_serve 12 = .ok (.aload_n 0, 1) := by decide +kernel
theorem dX7_serve_13 : decode cX7_serve 13 = .ok (.iload_n 1, 1) := by decide +kernel
theorem dX7_serve_14 : decode cX7_serve 14 = .ok (.invokevirtual 71, 3) := by decide +kernel
theorem dX7_serve_17 : decode cX7_serve 17 = .ok (.invokevirtual 60, 3) := by decide +kernel
theorem dX7_serve_20 : decode cX7_serve 20 = .ok (.ireturn, 1) := by decide +kernel
theorem dX7_pass_0 : decode cX7_pass 0 = .ok (.aload_n 0, 1) := by decide +kernel
theorem dX7_pass_1 : decode cX7_pass 1 = .ok (.getfield 22, 3) := by decide +kernel
theorem dX7_pass_4 : decode cX7_pass 4 = .ok (.aload_n 0, 1) := by decide +kernel
theorem dX7_pass_5 : decode cX7_pass 5 = .ok (.getfield 10, 3) := by decide +kernel
theorem dX7_pass_8 : decode cX7_pass 8 = .ok (.invokevirtual 52, 3) := by decide +kernel
theorem dX7_pass_11 : decode cX7_pass 11 = .ok (.aload_n 0, 1) := by decide +kernel
theorem dX7_pass_12 : decode cX7_pass 12 = .ok (.aload_n 0, 1) := by decide +kernel
theorem dX7_pass_13 : decode cX7_pass 13 = .ok (.getfield 10, 3) := by decide +kernel
theorem dX7_pass_16 : decode cX7_pass 16 = .ok (.iload_n 1, 1) := by decide +kernel
theorem dX7_pass_17 : decode cX7_pass 17 = .ok (.invokevirtual 74, 3) := by decide +kernel
theorem dX7_pass_20 : decode cX7_pass 20 = .ok (.invokevirtual 60, 3) := by decide +kernel
theorem dX7_pass_23 : decode cX7_pass 23 = .ok (.ireturn, 1) := by decide +kernel
theorem dX7_settled_0 : decode cX7_settled 0 = .ok (.iload_n 1, 1) := by decide +kernel
theorem dX7_settled_1 : decode cX7_settled 1 = .ok (.ifCond .lt 10, 3) := by decide +kernel
theorem dX7_settled_4 : decode cX7_settled 4 = .ok (.aload_n 0, 1) := by decide +kernel
theorem dX7_settled_5 : decode cX7_settled 5 = .ok (.getfield 22, 3) := by decide +kernel
theorem dX7_settled_8 : decode cX7_settled 8 = .ok (.invokevirtual 77, 3) := by decide +kernel
theorem dX7_settled_11 : decode cX7_settled 11 = .ok (.iload_n 1, 1) := by decide +kernel
theorem dX7_settled_12 : decode cX7_settled 12 = .ok (.ireturn, 1) := by decide +kernel
theorem dX7_serveSlips_0 : decode cX7_serveSlips 0 = .ok (.iload_n 1, 1) := by decide +kernel
theorem dX7_serveSlips_1 : decode cX7_serveSlips 1 = .ok (.iconst 1, 1) := by decide +kernel
theorem dX7_serveSlips_2 : decode cX7_serveSlips 2 = .ok (.if_icmp .lt 9, 3) := by decide +kernel
theorem dX7_serveSlips_5 : decode cX7_serveSlips 5 = .ok (.iload_n 1, 1) := by decide +kernel
theorem dX7_serveSlips_6 : decode cX7_serveSlips 6 = .ok (.bipush 30, 2) := by decide +kernel
theorem dX7_serveSlips_8 : decode cX7_serveSlips 8 = .ok (.if_icmp .le 6, 3) := by decide +kernel
theorem dX7_serveSlips_11 : decode cX7_serveSlips 11 = .ok (.bipush (-2), 2) := by decide +kernel
theorem dX7_serveSlips_13 : decode cX7_serveSlips 13 = .ok (.ireturn, 1) := by decide +kernel
theorem dX7_serveSlips_14 : decode cX7_serveSlips 14 = .ok (.iload_n 1, 1) := by decide +kernel
theorem dX7_serveSlips_15 : decode cX7_serveSlips 15 = .ok (.aload_n 0, 1) := by decide +kernel
theorem dX7_serveSlips_16 : decode cX7_serveSlips 16 = .ok (.getfield 10, 3) := by decide +kernel
theorem dX7_serveSlips_19 : decode cX7_serveSlips 19 = .ok (.invokevirtual 80, 3) := by decide +kernel
theorem dX7_serveSlips_22 : decode cX7_serveSlips 22 = .ok (.invokestatic 84, 3) := by decide +kernel
theorem dX7_serveSlips_25 : decode cX7_serveSlips 25 = .ok (.istore_n 2, 1) := by decide +kernel
theorem dX7_serveSlips_26 : decode cX7_serveSlips 26 = .ok (.iload_n 2, 1) := by decide +kernel
theorem dX7_serveSlips_27 : decode cX7_serveSlips 27 = .ok (.ifCond .ne 6, 3) := by decide +kernel
theorem dX7_serveSlips_30 : decode cX7_serveSlips 30 = .ok (.bipush (-5), 2) := by decide +kernel
theorem dX7_serveSlips_32 : decode cX7_serveSlips 32 = .ok (.ireturn, 1) := by decide +kernel
theorem dX7_serveSlips_33 : decode cX7_serveSlips 33 = .ok (.aload_n 0, 1) := by decide +kernel
theorem dX7_serveSlips_34 : decode cX7_serveSlips 34 = .ok (.getfield 16, 3) := by decide +kernel
theorem dX7_serveSlips_37 : decode cX7_serveSlips 37 = .ok (.aload_n 0, 1) := by decide +kernel
theorem dX7_serveSlips_38 : decode cX7_serveSlips 38 = .ok (.getfield 10, 3) := by decide +kernel
theorem dX7_serveSlips_41 : decode cX7_serveSlips 41 = .ok (.invokevirtual 89, 3) := by decide +kernel
theorem dX7_serveSlips_44 : decode cX7_serveSlips 44 = .ok (.iconst 0, 1) := by decide +kernel
theorem dX7_serveSlips_45 : decode cX7_serveSlips 45 = .ok (.istore_n 3, 1) := by decide +kernel
theorem dX7_serveSlips_46 : decode cX7_serveSlips 46 = .ok (.iload_n 3, 1) := by decide +kernel
theorem dX7_serveSlips_47 : decode cX7_serveSlips 47 = .ok (.iload_n 2, 1) := by decide +kernel
theorem dX7_serveSlips_48 : decode cX7_serveSlips 48 = .ok (.if_icmp .ge 16, 3) := by decide +kernel
theorem dX7_serveSlips_51 : decode cX7_serveSlips 51 = .ok (.aload_n 0, 1) := by decide +kernel
theorem dX7_serveSlips_52 : decode cX7_serveSlips 52 = .ok (.getfield 16, 3) := by decide +kernel
theorem dX7_serveSlips_55 : decode cX7_serveSlips 55 = .ok (.invokevirtual 92, 3) := by decide +kernel
theorem dX7_serveSlips_58 : decode cX7_serveSlips 58 = .ok (.iinc 3 1, 3) := by decide +kernel
theorem dX7_serveSlips_61 : decode cX7_serveSlips 61 = .ok (.goto (-15), 3) := by decide +kernel
theorem dX7_serveSlips_64 : decode cX7_serveSlips 64 = .ok (.aload_n 0, 1) := by decide +kernel
theorem dX7_serveSlips_65 : decode cX7_serveSlips 65 = .ok (.getfield 16, 3) := by decide +kernel
theorem dX7_serveSlips_68 : decode cX7_serveSlips 68 = .ok (.getfield 95, 3) := by decide +kernel
theorem dX7_serveSlips_71 : decode cX7_serveSlips 71 = .ok (.ldc 99, 2) := by decide +kernel
theorem dX7_serveSlips_73 : decode cX7_serveSlips 73 = .ok (.if_icmp .le 6, 3) := by decide +kernel
theorem dX7_serveSlips_76 : decode cX7_serveSlips 76 = .ok (.bipush (-5), 2) := by decide +kernel
theorem dX7_serveSlips_78 : decode cX7_serveSlips 78 = .ok (.ireturn, 1) := by decide +kernel
theorem dX7_serveSlips_79 : decode cX7_serveSlips 79 = .ok (.aload_n 0, 1) := by decide +kernel
theorem dX7_serveSlips_80 : decode cX7_serveSlips 80 = .ok (.getfield 10, 3) := by decide +kernel
theorem dX7_serveSlips_83 : decode cX7_serveSlips 83 = .ok (.aload_n 0, 1) := by decide +kernel
theorem dX7_serveSlips_84 : decode cX7_serveSlips 84 = .ok (.getfield 16, 3) := by decide +kernel
theorem dX7_serveSlips_87 : decode cX7_serveSlips 87 = .ok (.invokevirtual 89, 3) := by decide +kernel
theorem dX7_serveSlips_90 : decode cX7_serveSlips 90 = .ok (.iload_n 2, 1) := by decide +kernel
theorem dX7_serveSlips_91 : decode cX7_serveSlips 91 = .ok (.ireturn, 1) := by decide +kernel
theorem dX7_of_0 : decode cX7_of 0 = .ok (.aload_n 0, 1) := by decide +kernel
theorem dX7_of_1 : decode cX7_of 1 = .ok (.getfield 10, 3) := by decide +kernel
theorem dX7_of_4 : decode cX7_of 4 = .ok (.iload_n 1, 1) := by decide +kernel
theorem dX7_of_5 : decode cX7_of 5 = .ok (.invokevirtual 100, 3) := by decide +kernel
theorem dX7_of_8 : decode cX7_of 8 = .ok (.astore_n 3, 1) := by decide +kernel
theorem dX7_of_9 : decode cX7_of 9 = .ok (.aload_n 3, 1) := by decide +kernel
theorem dX7_of_10 : decode cX7_of 10 = .ok (.ifnonnull 5, 3) := by decide +kernel
theorem dX7_of_13 : decode cX7_of 13 = .ok (.iconst (-1), 1) := by decide +kernel
theorem dX7_of_14 : decode cX7_of 14 = .ok (.ireturn, 1) := by decide +kernel
theorem dX7_of_15 : decode cX7_of 15 = .ok (.iload_n 2, 1) := by decide +kernel
theorem dX7_of_16 : decode cX7_of 16 = .ok (.tableswitch 86 0 5 #[40, 45, 50, 55, 64, 81], 40) := by decide +kernel
theorem dX7_of_56 : decode cX7_of 56 = .ok (.aload_n 3, 1) := by decide +kernel
theorem dX7_of_57 : decode cX7_of 57 = .ok (.getfield 104, 3) := by decide +kernel
theorem dX7_of_60 : decode cX7_of 60 = .ok (.ireturn, 1) := by decide +kernel
theorem dX7_of_61 : decode cX7_of 61 = .ok (.aload_n 3, 1) := by decide +kernel
theorem dX7_of_62 : decode cX7_of 62 = .ok (.getfield 109, 3) := by decide +kernel
theorem dX7_of_65 : decode cX7_of 65 = .ok (.ireturn, 1) := by decide +kernel
theorem dX7_of_66 : decode cX7_of 66 = .ok (.aload_n 3, 1) := by decide +kernel
theorem dX7_of_67 : decode cX7_of 67 = .ok (.invokevirtual 112, 3) := by decide +kernel
theorem dX7_of_70 : decode cX7_of 70 = .ok (.ireturn, 1) := by decide +kernel
theorem dX7_of_71 : decode cX7_of 71 = .ok (.aload_n 0, 1) := by decide +kernel
theorem dX7_of_72 : decode cX7_of 72 = .ok (.getfield 10, 3) := by decide +kernel
theorem dX7_of_75 : decode cX7_of 75 = .ok (.aload_n 3, 1) := by decide +kernel
theorem dX7_of_76 : decode cX7_of 76 = .ok (.invokevirtual 115, 3) := by decide +kernel
theorem dX7_of_79 : decode cX7_of 79 = .ok (.ireturn, 1) := by decide +kernel
theorem dX7_of_80 : decode cX7_of 80 = .ok (.aload_n 0, 1) := by decide +kernel
theorem dX7_of_81 : decode cX7_of 81 = .ok (.getfield 10, 3) := by decide +kernel
theorem dX7_of_84 : decode cX7_of 84 = .ok (.aload_n 3, 1) := by decide +kernel
theorem dX7_of_85 : decode cX7_of 85 = .ok (.invokevirtual 119, 3) := by decide +kernel
theorem dX7_of_88 : decode cX7_of 88 = .ok (.ifCond .eq 7, 3) := by decide +kernel
theorem dX7_of_91 : decode cX7_of 91 = .ok (.iconst 1, 1) := by decide +kernel
theorem dX7_of_92 : decode cX7_of 92 = .ok (.goto 4, 3) := by decide +kernel
theorem dX7_of_95 : decode cX7_of 95 = .ok (.iconst 0, 1) := by decide +kernel
theorem dX7_of_96 : decode cX7_of 96 = .ok (.ireturn, 1) := by decide +kernel
theorem dX7_of_97 : decode cX7_of 97 = .ok (.aload_n 3, 1) := by decide +kernel
theorem dX7_of_98 : decode cX7_of 98 = .ok (.getfield 123, 3) := by decide +kernel
theorem dX7_of_101 : decode cX7_of 101 = .ok (.ireturn, 1) := by decide +kernel
theorem dX7_of_102 : decode cX7_of 102 = .ok (.bipush (-2), 2) := by decide +kernel
theorem dX7_of_104 : decode cX7_of 104 = .ok (.ireturn, 1) := by decide +kernel
theorem dX7_waiting_0 : decode cX7_waiting 0 = .ok (.iload_n 1, 1) := by decide +kernel
theorem dX7_waiting_1 : decode cX7_waiting 1 = .ok (.ifCond .eq 11, 3) := by decide +kernel
theorem dX7_waiting_4 : decode cX7_waiting 4 = .ok (.iload_n 1, 1) := by decide +kernel
theorem dX7_waiting_5 : decode cX7_waiting 5 = .ok (.iconst 1, 1) := by decide +kernel
theorem dX7_waiting_6 : decode cX7_waiting 6 = .ok (.if_icmp .eq 6, 3) := by decide +kernel
theorem dX7_waiting_9 : decode cX7_waiting 9 = .ok (.bipush (-2), 2) := by decide +kernel
theorem dX7_waiting_11 : decode cX7_waiting 11 = .ok (.ireturn, 1) := by decide +kernel
theorem dX7_waiting_12 : decode cX7_waiting 12 = .ok (.aload_n 0, 1) := by decide +kernel
theorem dX7_waiting_13 : decode cX7_waiting 13 = .ok (.getfield 10, 3) := by decide +kernel
theorem dX7_waiting_16 : decode cX7_waiting 16 = .ok (.iload_n 1, 1) := by decide +kernel
theorem dX7_waiting_17 : decode cX7_waiting 17 = .ok (.iload_n 2, 1) := by decide +kernel
theorem dX7_waiting_18 : decode cX7_waiting 18 = .ok (.invokevirtual 126, 3) := by decide +kernel
theorem dX7_waiting_21 : decode cX7_waiting 21 = .ok (.astore_n 3, 1) := by decide +kernel
theorem dX7_waiting_22 : decode cX7_waiting 22 = .ok (.aload_n 3, 1) := by decide +kernel
theorem dX7_waiting_23 : decode cX7_waiting 23 = .ok (.ifnonnull 7, 3) := by decide +kernel
theorem dX7_waiting_26 : decode cX7_waiting 26 = .ok (.iconst (-1), 1) := by decide +kernel
theorem dX7_waiting_27 : decode cX7_waiting 27 = .ok (.goto 7, 3) := by decide +kernel
theorem dX7_waiting_30 : decode cX7_waiting 30 = .ok (.aload_n 3, 1) := by decide +kernel
theorem dX7_waiting_31 : decode cX7_waiting 31 = .ok (.getfield 130, 3) := by decide +kernel
theorem dX7_waiting_34 : decode cX7_waiting 34 = .ok (.ireturn, 1) := by decide +kernel
theorem dX7_log_0 : decode cX7_log 0 = .ok (.aload_n 0, 1) := by decide +kernel
theorem dX7_log_1 : decode cX7_log 1 = .ok (.getfield 10, 3) := by decide +kernel
theorem dX7_log_4 : decode cX7_log 4 = .ok (.getfield 133, 3) := by decide +kernel
theorem dX7_log_7 : decode cX7_log 7 = .ok (.iload_n 1, 1) := by decide +kernel
theorem dX7_log_8 : decode cX7_log 8 = .ok (.invokevirtual 137, 3) := by decide +kernel
theorem dX7_log_11 : decode cX7_log 11 = .ok (.ifCond .ne 5, 3) := by decide +kernel
theorem dX7_log_14 : decode cX7_log 14 = .ok (.iconst (-1), 1) := by decide +kernel
theorem dX7_log_15 : decode cX7_log 15 = .ok (.ireturn, 1) := by decide +kernel
theorem dX7_log_16 : decode cX7_log 16 = .ok (.iload_n 2, 1) := by decide +kernel
theorem dX7_log_17 : decode cX7_log 17 = .ok (.tableswitch 63 0 2 #[27, 39, 51], 27) := by decide +kernel
theorem dX7_log_44 : decode cX7_log 44 = .ok (.aload_n 0, 1) := by decide +kernel
theorem dX7_log_45 : decode cX7_log 45 = .ok (.getfield 10, 3) := by decide +kernel
theorem dX7_log_48 : decode cX7_log 48 = .ok (.getfield 133, 3) := by decide +kernel
theorem dX7_log_51 : decode cX7_log 51 = .ok (.iload_n 1, 1) := by decide +kernel
theorem dX7_log_52 : decode cX7_log 52 = .ok (.invokevirtual 143, 3) := by decide +kernel
theorem dX7_log_55 : decode cX7_log 55 = .ok (.ireturn, 1) := by decide +kernel
theorem dX7_log_56 : decode cX7_log 56 = .ok (.aload_n 0, 1) := by decide +kernel
theorem dX7_log_57 : decode cX7_log 57 = .ok (.getfield 10, 3) := by decide +kernel
theorem dX7_log_60 : decode cX7_log 60 = .ok (.getfield 133, 3) := by decide +kernel
theorem dX7_log_63 : decode cX7_log 63 = .ok (.iload_n 1, 1) := by decide +kernel
theorem dX7_log_64 : decode cX7_log 64 = .ok (.invokevirtual 146, 3) := by decide +kernel
theorem dX7_log_67 : decode cX7_log 67 = .ok (.ireturn, 1) := by decide +kernel
theorem dX7_log_68 : decode cX7_log 68 = .ok (.aload_n 0, 1) := by decide +kernel
theorem dX7_log_69 : decode cX7_log 69 = .ok (.getfield 10, 3) := by decide +kernel
theorem dX7_log_72 : decode cX7_log 72 = .ok (.getfield 133, 3) := by decide +kernel
theorem dX7_log_75 : decode cX7_log 75 = .ok (.iload_n 1, 1) := by decide +kernel
theorem dX7_log_76 : decode cX7_log 76 = .ok (.invokevirtual 149, 3) := by decide +kernel
theorem dX7_log_79 : decode cX7_log 79 = .ok (.ireturn, 1) := by decide +kernel
theorem dX7_log_80 : decode cX7_log 80 = .ok (.bipush (-2), 2) := by decide +kernel
theorem dX7_log_82 : decode cX7_log 82 = .ok (.ireturn, 1) := by decide +kernel
theorem dX7_count_0 : decode cX7_count 0 = .ok (.iload_n 1, 1) := by decide +kernel
theorem dX7_count_1 : decode cX7_count 1 = .ok (.lookupswitch 43 #[(16, 27), (17, 35)], 27) := by decide +kernel
theorem dX7_count_28 : decode cX7_count 28 = .ok (.aload_n 0, 1) := by decide +kernel
theorem dX7_count_29 : decode cX7_count 29 = .ok (.getfield 39, 3) := by decide +kernel
theorem dX7_count_32 : decode cX7_count 32 = .ok (.getfield 152, 3) := by decide +kernel
theorem dX7_count_35 : decode cX7_count 35 = .ok (.ireturn, 1) := by decide +kernel
theorem dX7_count_36 : decode cX7_count 36 = .ok (.aload_n 0, 1) := by decide +kernel
theorem dX7_count_37 : decode cX7_count 37 = .ok (.getfield 22, 3) := by decide +kernel
theorem dX7_count_40 : decode cX7_count 40 = .ok (.getfield 155, 3) := by decide +kernel
theorem dX7_count_43 : decode cX7_count 43 = .ok (.ireturn, 1) := by decide +kernel
theorem dX7_count_44 : decode cX7_count 44 = .ok (.aload_n 0, 1) := by decide +kernel
theorem dX7_count_45 : decode cX7_count 45 = .ok (.getfield 10, 3) := by decide +kernel
theorem dX7_count_48 : decode cX7_count 48 = .ok (.iload_n 1, 1) := by decide +kernel
theorem dX7_count_49 : decode cX7_count 49 = .ok (.invokevirtual 158, 3) := by decide +kernel
theorem dX7_count_52 : decode cX7_count 52 = .ok (.ireturn, 1) := by decide +kernel
theorem dX7_next_0 : decode cX7_next 0 = .ok (.iload_n 1, 1) := by decide +kernel
theorem dX7_next_1 : decode cX7_next 1 = .ok (.ifCond .lt 8, 3) := by decide +kernel
theorem dX7_next_4 : decode cX7_next 4 = .ok (.iload_n 1, 1) := by decide +kernel
theorem dX7_next_5 : decode cX7_next 5 = .ok (.iconst 2, 1) := by decide +kernel
theorem dX7_next_6 : decode cX7_next 6 = .ok (.if_icmp .le 6, 3) := by decide +kernel
theorem dX7_next_9 : decode cX7_next 9 = .ok (.bipush (-2), 2) := by decide +kernel
theorem dX7_next_11 : decode cX7_next 11 = .ok (.ireturn, 1) := by decide +kernel
theorem dX7_next_12 : decode cX7_next 12 = .ok (.aload_n 0, 1) := by decide +kernel
theorem dX7_next_13 : decode cX7_next 13 = .ok (.getfield 10, 3) := by decide +kernel
theorem dX7_next_16 : decode cX7_next 16 = .ok (.invokevirtual 161, 3) := by decide +kernel
theorem dX7_next_19 : decode cX7_next 19 = .ok (.istore_n 2, 1) := by decide +kernel
theorem dX7_next_20 : decode cX7_next 20 = .ok (.aload_n 0, 1) := by decide +kernel
theorem dX7_next_21 : decode cX7_next 21 = .ok (.getfield 10, 3) := by decide +kernel
theorem dX7_next_24 : decode cX7_next 24 = .ok (.iload_n 2, 1) := by decide +kernel
theorem dX7_next_25 : decode cX7_next 25 = .ok (.invokevirtual 164, 3) := by decide +kernel
theorem dX7_next_28 : decode cX7_next 28 = .ok (.astore_n 3, 1) := by decide +kernel
theorem dX7_next_29 : decode cX7_next 29 = .ok (.aload_n 3, 1) := by decide +kernel
theorem dX7_next_30 : decode cX7_next 30 = .ok (.ifnonnull 6, 3) := by decide +kernel
theorem dX7_next_33 : decode cX7_next 33 = .ok (.bipush (-6), 2) := by decide +kernel
theorem dX7_next_35 : decode cX7_next 35 = .ok (.ireturn, 1) := by decide +kernel
theorem dX7_next_36 : decode cX7_next 36 = .ok (.iload_n 1, 1) := by decide +kernel
theorem dX7_next_37 : decode cX7_next 37 = .ok (.lookupswitch 34 #[(0, 27), (1, 32)], 27) := by decide +kernel
theorem dX7_next_64 : decode cX7_next 64 = .ok (.aload_n 3, 1) := by decide +kernel
theorem dX7_next_65 : decode cX7_next 65 = .ok (.getfield 130, 3) := by decide +kernel
theorem dX7_next_68 : decode cX7_next 68 = .ok (.ireturn, 1) := by decide +kernel
theorem dX7_next_69 : decode cX7_next 69 = .ok (.iload_n 2, 1) := by decide +kernel
theorem dX7_next_70 : decode cX7_next 70 = .ok (.ireturn, 1) := by decide +kernel
theorem dX7_next_71 : decode cX7_next 71 = .ok (.aload_n 0, 1) := by decide +kernel
theorem dX7_next_72 : decode cX7_next 72 = .ok (.getfield 10, 3) := by decide +kernel
theorem dX7_next_75 : decode cX7_next 75 = .ok (.getfield 95, 3) := by decide +kernel
theorem dX7_next_78 : decode cX7_next 78 = .ok (.aload_n 0, 1) := by decide +kernel
theorem dX7_next_79 : decode cX7_next 79 = .ok (.getfield 10, 3) := by decide +kernel
theorem dX7_next_82 : decode cX7_next 82 = .ok (.aload_n 3, 1) := by decide +kernel
theorem dX7_next_83 : decode cX7_next 83 = .ok (.invokevirtual 167, 3) := by decide +kernel
theorem dX7_next_86 : decode cX7_next 86 = .ok (.iadd, 1) := by decide +kernel
theorem dX7_next_87 : decode cX7_next 87 = .ok (.ireturn, 1) := by decide +kernel
theorem dX7_servedIn_0 : decode cX7_servedIn 0 = .ok (.aload_n 0, 1) := by decide +kernel
theorem dX7_servedIn_1 : decode cX7_servedIn 1 = .ok (.getfield 10, 3) := by decide +kernel
theorem dX7_servedIn_4 : decode cX7_servedIn 4 = .ok (.iload_n 1, 1) := by decide +kernel
theorem dX7_servedIn_5 : decode cX7_servedIn 5 = .ok (.invokevirtual 100, 3) := by decide +kernel
theorem dX7_servedIn_8 : decode cX7_servedIn 8 = .ok (.ifnonnull 5, 3) := by decide +kernel
theorem dX7_servedIn_11 : decode cX7_servedIn 11 = .ok (.iconst (-1), 1) := by decide +kernel
theorem dX7_servedIn_12 : decode cX7_servedIn 12 = .ok (.ireturn, 1) := by decide +kernel
theorem dX7_servedIn_13 : decode cX7_servedIn 13 = .ok (.aload_n 0, 1) := by decide +kernel
theorem dX7_servedIn_14 : decode cX7_servedIn 14 = .ok (.getfield 16, 3) := by decide +kernel
theorem dX7_servedIn_17 : decode cX7_servedIn 17 = .ok (.aload_n 0, 1) := by decide +kernel
theorem dX7_servedIn_18 : decode cX7_servedIn 18 = .ok (.getfield 10, 3) := by decide +kernel
theorem dX7_servedIn_21 : decode cX7_servedIn 21 = .ok (.invokevirtual 89, 3) := by decide +kernel
theorem dX7_servedIn_24 : decode cX7_servedIn 24 = .ok (.iconst 0, 1) := by decide +kernel
theorem dX7_servedIn_25 : decode cX7_servedIn 25 = .ok (.istore_n 2, 1) := by decide +kernel
theorem dX7_servedIn_26 : decode cX7_servedIn 26 = .ok (.iload_n 2, 1) := by decide +kernel
theorem dX7_servedIn_27 : decode cX7_servedIn 27 = .ok (.bipush 30, 2) := by decide +kernel
theorem dX7_servedIn_29 : decode cX7_servedIn 29 = .ok (.if_icmp .ge 27, 3) := by decide +kernel
theorem dX7_servedIn_32 : decode cX7_servedIn 32 = .ok (.aload_n 0, 1) := by decide +kernel
theorem dX7_servedIn_33 : decode cX7_servedIn 33 = .ok (.getfield 16, 3) := by decide +kernel
theorem dX7_servedIn_36 : decode cX7_servedIn 36 = .ok (.iload_n 1, 1) := by decide +kernel
theorem dX7_servedIn_37 : decode cX7_servedIn 37 = .ok (.invokevirtual 100, 3) := by decide +kernel
theorem dX7_servedIn_40 : decode cX7_servedIn 40 = .ok (.ifnull 16, 3) := by decide +kernel
theorem dX7_servedIn_43 : decode cX7_servedIn 43 = .ok (.aload_n 0, 1) := by decide +kernel
theorem dX7_servedIn_44 : decode cX7_servedIn 44 = .ok (.getfield 16, 3) := by decide +kernel
theorem dX7_servedIn_47 : decode cX7_servedIn 47 = .ok (.invokevirtual 92, 3) := by decide +kernel
theorem dX7_servedIn_50 : decode cX7_servedIn 50 = .ok (.iinc 2 1, 3) := by decide +kernel
theorem dX7_servedIn_53 : decode cX7_servedIn 53 = .ok (.goto (-27), 3) := by decide +kernel
theorem dX7_servedIn_56 : decode cX7_servedIn 56 = .ok (.aload_n 0, 1) := by decide +kernel
theorem dX7_servedIn_57 : decode cX7_servedIn 57 = .ok (.getfield 16, 3) := by decide +kernel
theorem dX7_servedIn_60 : decode cX7_servedIn 60 = .ok (.getfield 95, 3) := by decide +kernel
theorem dX7_servedIn_63 : decode cX7_servedIn 63 = .ok (.aload_n 0, 1) := by decide +kernel
theorem dX7_servedIn_64 : decode cX7_servedIn 64 = .ok (.getfield 10, 3) := by decide +kernel
theorem dX7_servedIn_67 : decode cX7_servedIn 67 = .ok (.getfield 95, 3) := by decide +kernel
theorem dX7_servedIn_70 : decode cX7_servedIn 70 = .ok (.isub, 1) := by decide +kernel
theorem dX7_servedIn_71 : decode cX7_servedIn 71 = .ok (.ireturn, 1) := by decide +kernel
theorem dX7_all_0 : decode cX7_all 0 = .ok (.iload_n 1, 1) := by decide +kernel
theorem dX7_all_1 : decode cX7_all 1 = .ok (.ifCond .lt 8, 3) := by decide +kernel
theorem dX7_all_4 : decode cX7_all 4 = .ok (.iload_n 1, 1) := by decide +kernel
theorem dX7_all_5 : decode cX7_all 5 = .ok (.iconst 2, 1) := by decide +kernel
theorem dX7_all_6 : decode cX7_all 6 = .ok (.if_icmp .le 6, 3) := by decide +kernel
theorem dX7_all_9 : decode cX7_all 9 = .ok (.bipush (-2), 2) := by decide +kernel
theorem dX7_all_11 : decode cX7_all 11 = .ok (.ireturn, 1) := by decide +kernel
theorem dX7_all_12 : decode cX7_all 12 = .ok (.aload_n 0, 1) := by decide +kernel
theorem dX7_all_13 : decode cX7_all 13 = .ok (.getfield 10, 3) := by decide +kernel
theorem dX7_all_16 : decode cX7_all 16 = .ok (.invokevirtual 80, 3) := by decide +kernel
theorem dX7_all_19 : decode cX7_all 19 = .ok (.istore_n 2, 1) := by decide +kernel
theorem dX7_all_20 : decode cX7_all 20 = .ok (.iload_n 2, 1) := by decide +kernel
theorem dX7_all_21 : decode cX7_all 21 = .ok (.ifCond .ne 6, 3) := by decide +kernel
theorem dX7_all_24 : decode cX7_all 24 = .ok (.bipush (-6), 2) := by decide +kernel
theorem dX7_all_26 : decode cX7_all 26 = .ok (.ireturn, 1) := by decide +kernel
theorem dX7_all_27 : decode cX7_all 27 = .ok (.aload_n 0, 1) := by decide +kernel
theorem dX7_all_28 : decode cX7_all 28 = .ok (.getfield 16, 3) := by decide +kernel
theorem dX7_all_31 : decode cX7_all 31 = .ok (.aload_n 0, 1) := by decide +kernel
theorem dX7_all_32 : decode cX7_all 32 = .ok (.getfield 10, 3) := by decide +kernel
theorem dX7_all_35 : decode cX7_all 35 = .ok (.invokevirtual 89, 3) := by decide +kernel
theorem dX7_all_38 : decode cX7_all 38 = .ok (.aload_n 0, 1) := by decide +kernel
theorem dX7_all_39 : decode cX7_all 39 = .ok (.getfield 16, 3) := by decide +kernel
theorem dX7_all_42 : decode cX7_all 42 = .ok (.iconst 0, 1) := by decide +kernel
theorem dX7_all_43 : decode cX7_all 43 = .ok (.putfield 170, 3) := by decide +kernel
theorem dX7_all_46 : decode cX7_all 46 = .ok (.iconst 0, 1) := by decide +kernel
theorem dX7_all_47 : decode cX7_all 47 = .ok (.istore_n 3, 1) := by decide +kernel
theorem dX7_all_48 : decode cX7_all 48 = .ok (.iload_n 3, 1) := by decide +kernel
theorem dX7_all_49 : decode cX7_all 49 = .ok (.iload_n 2, 1) := by decide +kernel
theorem dX7_all_50 : decode cX7_all 50 = .ok (.if_icmp .ge 16, 3) := by decide +kernel
theorem dX7_all_53 : decode cX7_all 53 = .ok (.aload_n 0, 1) := by decide +kernel
theorem dX7_all_54 : decode cX7_all 54 = .ok (.getfield 16, 3) := by decide +kernel
theorem dX7_all_57 : decode cX7_all 57 = .ok (.invokevirtual 92, 3) := by decide +kernel
theorem dX7_all_60 : decode cX7_all 60 = .ok (.iinc 3 1, 3) := by decide +kernel
theorem dX7_all_63 : decode cX7_all 63 = .ok (.goto (-15), 3) := by decide +kernel
theorem dX7_all_66 : decode cX7_all 66 = .ok (.iload_n 1, 1) := by decide +kernel
theorem dX7_all_67 : decode cX7_all 67 = .ok (.lookupswitch 57 #[(0, 25), (1, 41)], 25) := by decide +kernel
theorem dX7_all_92 : decode cX7_all 92 = .ok (.aload_n 0, 1) := by decide +kernel
theorem dX7_all_93 : decode cX7_all 93 = .ok (.getfield 16, 3) := by decide +kernel
theorem dX7_all_96 : decode cX7_all 96 = .ok (.getfield 95, 3) := by decide +kernel
theorem dX7_all_99 : decode cX7_all 99 = .ok (.aload_n 0, 1) := by decide +kernel
theorem dX7_all_100 : decode cX7_all 100 = .ok (.getfield 10, 3) := by decide +kernel
theorem dX7_all_103 : decode cX7_all 103 = .ok (.getfield 95, 3) := by decide +kernel
theorem dX7_all_106 : decode cX7_all 106 = .ok (.isub, 1) := by decide +kernel
theorem dX7_all_107 : decode cX7_all 107 = .ok (.ireturn, 1) := by decide +kernel
theorem dX7_all_108 : decode cX7_all 108 = .ok (.aload_n 0, 1) := by decide +kernel
theorem dX7_all_109 : decode cX7_all 109 = .ok (.getfield 16, 3) := by decide +kernel
theorem dX7_all_112 : decode cX7_all 112 = .ok (.getfield 173, 3) := by decide +kernel
theorem dX7_all_115 : decode cX7_all 115 = .ok (.aload_n 0, 1) := by decide +kernel
theorem dX7_all_116 : decode cX7_all 116 = .ok (.getfield 10, 3) := by decide +kernel
theorem dX7_all_119 : decode cX7_all 119 = .ok (.getfield 173, 3) := by decide +kernel
theorem dX7_all_122 : decode cX7_all 122 = .ok (.isub, 1) := by decide +kernel
theorem dX7_all_123 : decode cX7_all 123 = .ok (.ireturn, 1) := by decide +kernel
theorem dX7_all_124 : decode cX7_all 124 = .ok (.aload_n 0, 1) := by decide +kernel
theorem dX7_all_125 : decode cX7_all 125 = .ok (.getfield 16, 3) := by decide +kernel
theorem dX7_all_128 : decode cX7_all 128 = .ok (.getfield 170, 3) := by decide +kernel
theorem dX7_all_131 : decode cX7_all 131 = .ok (.ireturn, 1) := by decide +kernel
theorem dX7_joined_0 : decode cX7_joined 0 = .ok (.iload_n 1, 1) := by decide +kernel
theorem dX7_joined_1 : decode cX7_joined 1 = .ok (.iload_n 2, 1) := by decide +kernel
theorem dX7_joined_2 : decode cX7_joined 2 = .ok (.iload_n 3, 1) := by decide +kernel
theorem dX7_joined_3 : decode cX7_joined 3 = .ok (.invokestatic 176, 3) := by decide +kernel
theorem dX7_joined_6 : decode cX7_joined 6 = .ok (.ifCond .ne 6, 3) := by decide +kernel
theorem dX7_joined_9 : decode cX7_joined 9 = .ok (.bipush (-2), 2) := by decide +kernel
theorem dX7_joined_11 : decode cX7_joined 11 = .ok (.ireturn, 1) := by decide +kernel
theorem dX7_joined_12 : decode cX7_joined 12 = .ok (.aload_n 0, 1) := by decide +kernel
theorem dX7_joined_13 : decode cX7_joined 13 = .ok (.getfield 10, 3) := by decide +kernel
theorem dX7_joined_16 : decode cX7_joined 16 = .ok (.iload_n 1, 1) := by decide +kernel
theorem dX7_joined_17 : decode cX7_joined 17 = .ok (.iload_n 2, 1) := by decide +kernel
theorem dX7_joined_18 : decode cX7_joined 18 = .ok (.iload_n 3, 1) := by decide +kernel
theorem dX7_joined_19 : decode cX7_joined 19 = .ok (.invokevirtual 180, 3) := by decide +kernel
theorem dX7_joined_22 : decode cX7_joined 22 = .ok (.astore 4, 2) := by decide +kernel
theorem dX7_joined_24 : decode cX7_joined 24 = .ok (.aload 4, 2) := by decide +kernel
theorem dX7_joined_26 : decode cX7_joined 26 = .ok (.ifnonnull 8, 3) := by decide +kernel
theorem dX7_joined_29 : decode cX7_joined 29 = .ok (.bipush (-6), 2) := by decide +kernel
theorem dX7_joined_31 : decode cX7_joined 31 = .ok (.goto 8, 3) := by decide +kernel
theorem dX7_joined_34 : decode cX7_joined 34 = .ok (.aload 4, 2) := by decide +kernel
theorem dX7_joined_36 : decode cX7_joined 36 = .ok (.getfield 130, 3) := by decide +kernel
theorem dX7_joined_39 : decode cX7_joined 39 = .ok (.ireturn, 1) := by decide +kernel
theorem dX7_isSlip_0 : decode cX7_isSlip 0 = .ok (.iload_n 0, 1) := by decide +kernel
theorem dX7_isSlip_1 : decode cX7_isSlip 1 = .ok (.ifCond .eq 8, 3) := by decide +kernel
theorem dX7_isSlip_4 : decode cX7_isSlip 4 = .ok (.iload_n 0, 1) := by decide +kernel
theorem dX7_isSlip_5 : decode cX7_isSlip 5 = .ok (.iconst 1, 1) := by decide +kernel
theorem dX7_isSlip_6 : decode cX7_isSlip 6 = .ok (.if_icmp .ne 38, 3) := by decide +kernel
theorem dX7_isSlip_9 : decode cX7_isSlip 9 = .ok (.iload_n 1, 1) := by decide +kernel
theorem dX7_isSlip_10 : decode cX7_isSlip 10 = .ok (.ifCond .lt 34, 3) := by decide +kernel
theorem dX7_isSlip_13 : decode cX7_isSlip 13 = .ok (.iload_n 1, 1) := by decide +kernel
theorem dX7_isSlip_14 : decode cX7_isSlip 14 = .ok (.bipush 99, 2) := by decide +kernel
theorem dX7_isSlip_16 : decode cX7_isSlip 16 = .ok (.if_icmp .gt 28, 3) := by decide +kernel
theorem dX7_isSlip_19 : decode cX7_isSlip 19 = .ok (.iload_n 2, 1) := by decide +kernel
theorem dX7_isSlip_20 : decode cX7_isSlip 20 = .ok (.iconst 1, 1) := by decide +kernel
theorem dX7_isSlip_21 : decode cX7_isSlip 21 = .ok (.if_icmp .lt 23, 3) := by decide +kernel
theorem dX7_isSlip_24 : decode cX7_isSlip 24 = .ok (.iload_n 2, 1) := by decide +kernel
theorem dX7_isSlip_25 : decode cX7_isSlip 25 = .ok (.bipush 9, 2) := by decide +kernel
theorem dX7_isSlip_27 : decode cX7_isSlip 27 = .ok (.if_icmp .gt 17, 3) := by decide +kernel
theorem dX7_isSlip_30 : decode cX7_isSlip 30 = .ok (.iload_n 1, 1) := by decide +kernel
theorem dX7_isSlip_31 : decode cX7_isSlip 31 = .ok (.iload_n 2, 1) := by decide +kernel
theorem dX7_isSlip_32 : decode cX7_isSlip 32 = .ok (.iadd, 1) := by decide +kernel
theorem dX7_isSlip_33 : decode cX7_isSlip 33 = .ok (.iconst 1, 1) := by decide +kernel
theorem dX7_isSlip_34 : decode cX7_isSlip 34 = .ok (.isub, 1) := by decide +kernel
theorem dX7_isSlip_35 : decode cX7_isSlip 35 = .ok (.bipush 99, 2) := by decide +kernel
theorem dX7_isSlip_37 : decode cX7_isSlip 37 = .ok (.if_icmp .gt 7, 3) := by decide +kernel
theorem dX7_isSlip_40 : decode cX7_isSlip 40 = .ok (.iconst 1, 1) := by decide +kernel
theorem dX7_isSlip_41 : decode cX7_isSlip 41 = .ok (.goto 4, 3) := by decide +kernel
theorem dX7_isSlip_44 : decode cX7_isSlip 44 = .ok (.iconst 0, 1) := by decide +kernel
theorem dX7_isSlip_45 : decode cX7_isSlip 45 = .ok (.ireturn, 1) := by decide +kernel
theorem dX7_isIndexOf_0 : decode cX7_isIndexOf 0 = .ok (.iload_n 1, 1) := by decide +kernel
theorem dX7_isIndexOf_1 : decode cX7_isIndexOf 1 = .ok (.ifCond .lt 13, 3) := by decide +kernel
theorem dX7_isIndexOf_4 : decode cX7_isIndexOf 4 = .ok (.iload_n 1, 1) := by decide +kernel
theorem dX7_isIndexOf_5 : decode cX7_isIndexOf 5 = .ok (.aload_n 0, 1) := by decide +kernel
theorem dX7_isIndexOf_6 : decode cX7_isIndexOf 6 = .ok (.arraylength, 1) := by decide +kernel
theorem dX7_isIndexOf_7 : decode cX7_isIndexOf 7 = .ok (.if_icmp .ge 7, 3) := by decide +kernel
theorem dX7_isIndexOf_10 : decode cX7_isIndexOf 10 = .ok (.iconst 1, 1) := by decide +kernel
theorem dX7_isIndexOf_11 : decode cX7_isIndexOf 11 = .ok (.goto 4, 3) := by decide +kernel
theorem dX7_isIndexOf_14 : decode cX7_isIndexOf 14 = .ok (.iconst 0, 1) := by decide +kernel
theorem dX7_isIndexOf_15 : decode cX7_isIndexOf 15 = .ok (.ireturn, 1) := by decide +kernel
theorem dX7_valueAt_0 : decode cX7_valueAt 0 = .ok (.iload_n 1, 1) := by decide +kernel
theorem dX7_valueAt_1 : decode cX7_valueAt 1 = .ok (.ifCond .lt 15, 3) := by decide +kernel
theorem dX7_valueAt_4 : decode cX7_valueAt 4 = .ok (.iload_n 1, 1) := by decide +kernel
theorem dX7_valueAt_5 : decode cX7_valueAt 5 = .ok (.aload_n 0, 1) := by decide +kernel
theorem dX7_valueAt_6 : decode cX7_valueAt 6 = .ok (.arraylength, 1) := by decide +kernel
theorem dX7_valueAt_7 : decode cX7_valueAt 7 = .ok (.if_icmp .ge 9, 3) := by decide +kernel
theorem dX7_valueAt_10 : decode cX7_valueAt 10 = .ok (.aload_n 0, 1) := by decide +kernel
theorem dX7_valueAt_11 : decode cX7_valueAt 11 = .ok (.iload_n 1, 1) := by decide +kernel
theorem dX7_valueAt_12 : decode cX7_valueAt 12 = .ok (.iaload, 1) := by decide +kernel
theorem dX7_valueAt_13 : decode cX7_valueAt 13 = .ok (.goto 4, 3) := by decide +kernel
theorem dX7_valueAt_16 : decode cX7_valueAt 16 = .ok (.iconst 0, 1) := by decide +kernel
theorem dX7_valueAt_17 : decode cX7_valueAt 17 = .ok (.ireturn, 1) := by decide +kernel
theorem dX7_copyRow_0 : decode cX7_copyRow 0 = .ok (.iconst 0, 1) := by decide +kernel
theorem dX7_copyRow_1 : decode cX7_copyRow 1 = .ok (.istore_n 2, 1) := by decide +kernel
theorem dX7_copyRow_2 : decode cX7_copyRow 2 = .ok (.iload_n 2, 1) := by decide +kernel
theorem dX7_copyRow_3 : decode cX7_copyRow 3 = .ok (.aload_n 0, 1) := by decide +kernel
theorem dX7_copyRow_4 : decode cX7_copyRow 4 = .ok (.arraylength, 1) := by decide +kernel
theorem dX7_copyRow_5 : decode cX7_copyRow 5 = .ok (.if_icmp .ge 21, 3) := by decide +kernel
theorem dX7_copyRow_8 : decode cX7_copyRow 8 = .ok (.iload_n 2, 1) := by decide +kernel
theorem dX7_copyRow_9 : decode cX7_copyRow 9 = .ok (.aload_n 1, 1) := by decide +kernel
theorem dX7_copyRow_10 : decode cX7_copyRow 10 = .ok (.arraylength, 1) := by decide +kernel
theorem dX7_copyRow_11 : decode cX7_copyRow 11 = .ok (.if_icmp .ge 15, 3) := by decide +kernel
theorem dX7_copyRow_14 : decode cX7_copyRow 14 = .ok (.aload_n 1, 1) := by decide +kernel
theorem dX7_copyRow_15 : decode cX7_copyRow 15 = .ok (.iload_n 2, 1) := by decide +kernel
theorem dX7_copyRow_16 : decode cX7_copyRow 16 = .ok (.aload_n 0, 1) := by decide +kernel
theorem dX7_copyRow_17 : decode cX7_copyRow 17 = .ok (.iload_n 2, 1) := by decide +kernel
theorem dX7_copyRow_18 : decode cX7_copyRow 18 = .ok (.iaload, 1) := by decide +kernel
theorem dX7_copyRow_19 : decode cX7_copyRow 19 = .ok (.iastore, 1) := by decide +kernel
theorem dX7_copyRow_20 : decode cX7_copyRow 20 = .ok (.iinc 2 1, 3) := by decide +kernel
theorem dX7_copyRow_23 : decode cX7_copyRow 23 = .ok (.goto (-21), 3) := by decide +kernel
theorem dX7_copyRow_26 : decode cX7_copyRow 26 = .ok (.return_, 1) := by decide +kernel
theorem dJ9_abs_0f7a4_0 : decode cJ9_abs_0f7a4 0 = .ok (.iload_n 0, 1) := by decide +kernel
theorem dJ9_abs_0f7a4_1 : decode cJ9_abs_0f7a4 1 = .ok (.ifCond .ge 8, 3) := by decide +kernel
theorem dJ9_abs_0f7a4_4 : decode cJ9_abs_0f7a4 4 = .ok (.iload_n 0, 1) := by decide +kernel
theorem dJ9_abs_0f7a4_5 : decode cJ9_abs_0f7a4 5 = .ok (.ineg, 1) := by decide +kernel
theorem dJ9_abs_0f7a4_6 : decode cJ9_abs_0f7a4 6 = .ok (.goto 4, 3) := by decide +kernel
theorem dJ9_abs_0f7a4_9 : decode cJ9_abs_0f7a4 9 = .ok (.iload_n 0, 1) := by decide +kernel
theorem dJ9_abs_0f7a4_10 : decode cJ9_abs_0f7a4 10 = .ok (.ireturn, 1) := by decide +kernel
theorem dJ9_max_7cf53_0 : decode cJ9_max_7cf53 0 = .ok (.iload_n 0, 1) := by decide +kernel
theorem dJ9_max_7cf53_1 : decode cJ9_max_7cf53 1 = .ok (.iload_n 1, 1) := by decide +kernel
theorem dJ9_max_7cf53_2 : decode cJ9_max_7cf53 2 = .ok (.if_icmp .lt 7, 3) := by decide +kernel
theorem dJ9_max_7cf53_5 : decode cJ9_max_7cf53 5 = .ok (.iload_n 0, 1) := by decide +kernel
theorem dJ9_max_7cf53_6 : decode cJ9_max_7cf53 6 = .ok (.goto 4, 3) := by decide +kernel
theorem dJ9_max_7cf53_9 : decode cJ9_max_7cf53 9 = .ok (.iload_n 1, 1) := by decide +kernel
theorem dJ9_max_7cf53_10 : decode cJ9_max_7cf53 10 = .ok (.ireturn, 1) := by decide +kernel
theorem dJ9_min_7cf53_0 : decode cJ9_min_7cf53 0 = .ok (.iload_n 0, 1) := by decide +kernel
theorem dJ9_min_7cf53_1 : decode cJ9_min_7cf53 1 = .ok (.iload_n 1, 1) := by decide +kernel
theorem dJ9_min_7cf53_2 : decode cJ9_min_7cf53 2 = .ok (.if_icmp .gt 7, 3) := by decide +kernel
theorem dJ9_min_7cf53_5 : decode cJ9_min_7cf53 5 = .ok (.iload_n 0, 1) := by decide +kernel
theorem dJ9_min_7cf53_6 : decode cJ9_min_7cf53 6 = .ok (.goto 4, 3) := by decide +kernel
theorem dJ9_min_7cf53_9 : decode cJ9_min_7cf53 9 = .ok (.iload_n 1, 1) := by decide +kernel
theorem dJ9_min_7cf53_10 : decode cJ9_min_7cf53 10 = .ok (.ireturn, 1) := by decide +kernel
