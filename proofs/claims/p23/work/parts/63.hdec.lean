theorem dL_cell_0 : decode cL_cell 0 = .ok (.iload_n 1, 1) := by decide +kernel
theorem dL_cell_1 : decode cL_cell 1 = .ok (.aload_n 0, 1) := by decide +kernel
theorem dL_cell_2 : decode cL_cell 2 = .ok (.arraylength, 1) := by decide +kernel
theorem dL_cell_3 : decode cL_cell 3 = .ok (.if_icmp .ge 9, 3) := by decide +kernel
theorem dL_cell_6 : decode cL_cell 6 = .ok (.aload_n 0, 1) := by decide +kernel
theorem dL_cell_7 : decode cL_cell 7 = .ok (.iload_n 1, 1) := by decide +kernel
theorem dL_cell_8 : decode cL_cell 8 = .ok (.iaload, 1) := by decide +kernel
theorem dL_cell_9 : decode cL_cell 9 = .ok (.goto 11, 3) := by decide +kernel
theorem dL_cell_12 : decode cL_cell 12 = .ok (.ldc 7, 2) := by decide +kernel
theorem dL_cell_14 : decode cL_cell 14 = .ok (.iload_n 1, 1) := by decide +kernel
theorem dL_cell_15 : decode cL_cell 15 = .ok (.imul, 1) := by decide +kernel
theorem dL_cell_16 : decode cL_cell 16 = .ok (.sipush 19013, 3) := by decide +kernel
theorem dL_cell_19 : decode cL_cell 19 = .ok (.iadd, 1) := by decide +kernel
theorem dL_cell_20 : decode cL_cell 20 = .ok (.ireturn, 1) := by decide +kernel
theorem dL_low_0 : decode cL_low 0 = .ok (.iload_n 0, 1) := by decide +kernel
theorem dL_low_1 : decode cL_low 1 = .ok (.ldc 8, 2) := by decide +kernel
theorem dL_low_3 : decode cL_low 3 = .ok (.iand, 1) := by decide +kernel
theorem dL_low_4 : decode cL_low 4 = .ok (.iload_n 1, 1) := by decide +kernel
theorem dL_low_5 : decode cL_low 5 = .ok (.irem, 1) := by decide +kernel
theorem dL_low_6 : decode cL_low 6 = .ok (.ireturn, 1) := by decide +kernel
theorem dL_far_0 : decode cL_far 0 = .ok (.iload_n 0, 1) := by decide +kernel
theorem dL_far_1 : decode cL_far 1 = .ok (.iload_n 1, 1) := by decide +kernel
theorem dL_far_2 : decode cL_far 2 = .ok (.if_icmp .ge 9, 3) := by decide +kernel
theorem dL_far_5 : decode cL_far 5 = .ok (.iload_n 1, 1) := by decide +kernel
theorem dL_far_6 : decode cL_far 6 = .ok (.iload_n 0, 1) := by decide +kernel
theorem dL_far_7 : decode cL_far 7 = .ok (.isub, 1) := by decide +kernel
theorem dL_far_8 : decode cL_far 8 = .ok (.goto 6, 3) := by decide +kernel
theorem dL_far_11 : decode cL_far 11 = .ok (.iload_n 0, 1) := by decide +kernel
theorem dL_far_12 : decode cL_far 12 = .ok (.iload_n 1, 1) := by decide +kernel
theorem dL_far_13 : decode cL_far 13 = .ok (.isub, 1) := by decide +kernel
theorem dL_far_14 : decode cL_far 14 = .ok (.ireturn, 1) := by decide +kernel
theorem dL_lowest_0 : decode cL_lowest 0 = .ok (.iconst 0, 1) := by decide +kernel
theorem dL_lowest_1 : decode cL_lowest 1 = .ok (.istore_n 3, 1) := by decide +kernel
theorem dL_lowest_2 : decode cL_lowest 2 = .ok (.iload_n 3, 1) := by decide +kernel
theorem dL_lowest_3 : decode cL_lowest 3 = .ok (.aload_n 0, 1) := by decide +kernel
theorem dL_lowest_4 : decode cL_lowest 4 = .ok (.iconst 1, 1) := by decide +kernel
theorem dL_lowest_5 : decode cL_lowest 5 = .ok (.iload_n 1, 1) := by decide +kernel
theorem dL_lowest_6 : decode cL_lowest 6 = .ok (.iadd, 1) := by decide +kernel
theorem dL_lowest_7 : decode cL_lowest 7 = .ok (.invokevirtual 9, 3) := by decide +kernel
theorem dL_lowest_10 : decode cL_lowest 10 = .ok (.if_icmp .ge 31, 3) := by decide +kernel
theorem dL_lowest_13 : decode cL_lowest 13 = .ok (.aload_n 0, 1) := by decide +kernel
theorem dL_lowest_14 : decode cL_lowest 14 = .ok (.iload_n 1, 1) := by decide +kernel
theorem dL_lowest_15 : decode cL_lowest 15 = .ok (.iload_n 3, 1) := by decide +kernel
theorem dL_lowest_16 : decode cL_lowest 16 = .ok (.invokevirtual 15, 3) := by decide +kernel
theorem dL_lowest_19 : decode cL_lowest 19 = .ok (.istore 4, 2) := by decide +kernel
theorem dL_lowest_21 : decode cL_lowest 21 = .ok (.aload_n 0, 1) := by decide +kernel
theorem dL_lowest_22 : decode cL_lowest 22 = .ok (.iload 4, 2) := by decide +kernel
theorem dL_lowest_24 : decode cL_lowest 24 = .ok (.iconst 1, 1) := by decide +kernel
theorem dL_lowest_25 : decode cL_lowest 25 = .ok (.invokevirtual 19, 3) := by decide +kernel
theorem dL_lowest_28 : decode cL_lowest 28 = .ok (.iload_n 2, 1) := by decide +kernel
theorem dL_lowest_29 : decode cL_lowest 29 = .ok (.if_icmp .lt 6, 3) := by decide +kernel
theorem dL_lowest_32 : decode cL_lowest 32 = .ok (.iload 4, 2) := by decide +kernel
theorem dL_lowest_34 : decode cL_lowest 34 = .ok (.ireturn, 1) := by decide +kernel
theorem dL_lowest_35 : decode cL_lowest 35 = .ok (.iinc 3 1, 3) := by decide +kernel
theorem dL_lowest_38 : decode cL_lowest 38 = .ok (.goto (-36), 3) := by decide +kernel
theorem dL_lowest_41 : decode cL_lowest 41 = .ok (.bipush (-6), 2) := by decide +kernel
theorem dL_lowest_43 : decode cL_lowest 43 = .ok (.ireturn, 1) := by decide +kernel
theorem dL_oldest_0 : decode cL_oldest 0 = .ok (.bipush (-6), 2) := by decide +kernel
theorem dL_oldest_2 : decode cL_oldest 2 = .ok (.istore_n 2, 1) := by decide +kernel
theorem dL_oldest_3 : decode cL_oldest 3 = .ok (.iconst 0, 1) := by decide +kernel
theorem dL_oldest_4 : decode cL_oldest 4 = .ok (.istore_n 3, 1) := by decide +kernel
theorem dL_oldest_5 : decode cL_oldest 5 = .ok (.iload_n 3, 1) := by decide +kernel
theorem dL_oldest_6 : decode cL_oldest 6 = .ok (.aload_n 0, 1) := by decide +kernel
theorem dL_oldest_7 : decode cL_oldest 7 = .ok (.iconst 1, 1) := by decide +kernel
theorem dL_oldest_8 : decode cL_oldest 8 = .ok (.iload_n 1, 1) := by decide +kernel
theorem dL_oldest_9 : decode cL_oldest 9 = .ok (.iadd, 1) := by decide +kernel
theorem dL_oldest_10 : decode cL_oldest 10 = .ok (.invokevirtual 9, 3) := by decide +kernel
theorem dL_oldest_13 : decode cL_oldest 13 = .ok (.if_icmp .ge 78, 3) := by decide +kernel
theorem dL_oldest_16 : decode cL_oldest 16 = .ok (.aload_n 0, 1) := by decide +kernel
theorem dL_oldest_17 : decode cL_oldest 17 = .ok (.iload_n 1, 1) := by decide +kernel
theorem dL_oldest_18 : decode cL_oldest 18 = .ok (.iload_n 3, 1) := by decide +kernel
theorem dL_oldest_19 : decode cL_oldest 19 = .ok (.invokevirtual 15, 3) := by decide +kernel
theorem dL_oldest_22 : decode cL_oldest 22 = .ok (.istore 4, 2) := by decide +kernel
theorem dL_oldest_24 : decode cL_oldest 24 = .ok (.iload_n 2, 1) := by decide +kernel
theorem dL_oldest_25 : decode cL_oldest 25 = .ok (.ifCond .lt 41, 3) := by decide +kernel
theorem dL_oldest_28 : decode cL_oldest 28 = .ok (.aload_n 0, 1) := by decide +kernel
theorem dL_oldest_29 : decode cL_oldest 29 = .ok (.iload 4, 2) := by decide +kernel
theorem dL_oldest_31 : decode cL_oldest 31 = .ok (.iconst 3, 1) := by decide +kernel
theorem dL_oldest_32 : decode cL_oldest 32 = .ok (.invokevirtual 19, 3) := by decide +kernel
theorem dL_oldest_35 : decode cL_oldest 35 = .ok (.aload_n 0, 1) := by decide +kernel
theorem dL_oldest_36 : decode cL_oldest 36 = .ok (.iload_n 2, 1) := by decide +kernel
theorem dL_oldest_37 : decode cL_oldest 37 = .ok (.iconst 3, 1) := by decide +kernel
theorem dL_oldest_38 : decode cL_oldest 38 = .ok (.invokevirtual 19, 3) := by decide +kernel
theorem dL_oldest_41 : decode cL_oldest 41 = .ok (.if_icmp .gt 25, 3) := by decide +kernel
theorem dL_oldest_44 : decode cL_oldest 44 = .ok (.aload_n 0, 1) := by decide +kernel
theorem dL_oldest_45 : decode cL_oldest 45 = .ok (.iload 4, 2) := by decide +kernel
theorem dL_oldest_47 : decode cL_oldest 47 = .ok (.iconst 3, 1) := by decide +kernel
theorem dL_oldest_48 : decode cL_oldest 48 = .ok (.invokevirtual 19, 3) := by decide +kernel
theorem dL_oldest_51 : decode cL_oldest 51 = .ok (.aload_n 0, 1) := by decide +kernel
theorem dL_oldest_52 : decode cL_oldest 52 = .ok (.iload_n 2, 1) := by decide +kernel
theorem dL_oldest_53 : decode cL_oldest 53 = .ok (.iconst 3, 1) := by decide +kernel
theorem dL_oldest_54 : decode cL_oldest 54 = .ok (.invokevirtual 19, 3) := by decide +kernel
theorem dL_oldest_57 : decode cL_oldest 57 = .ok (.if_icmp .ne 13, 3) := by decide +kernel
theorem dL_oldest_60 : decode cL_oldest 60 = .ok (.iload 4, 2) := by decide +kernel
theorem dL_oldest_62 : decode cL_oldest 62 = .ok (.iload_n 2, 1) := by decide +kernel
theorem dL_oldest_63 : decode cL_oldest 63 = .ok (.if_icmp .ge 7, 3) := by decide +kernel
theorem dL_oldest_66 : decode cL_oldest 66 = .ok (.iconst 1, 1) := by decide +kernel
theorem dL_oldest_67 : decode cL_oldest 67 = .ok (.goto 4, 3) := by decide +kernel
theorem dL_oldest_70 : decode cL_oldest 70 = .ok (.iconst 0, 1) := by decide +kernel
theorem dL_oldest_71 : decode cL_oldest 71 = .ok (.istore 5, 2) := by decide +kernel
theorem dL_oldest_73 : decode cL_oldest 73 = .ok (.iload 5, 2) := by decide +kernel
theorem dL_oldest_75 : decode cL_oldest 75 = .ok (.ifCond .eq 8, 3) := by decide +kernel
theorem dL_oldest_78 : decode cL_oldest 78 = .ok (.iload 4, 2) := by decide +kernel
theorem dL_oldest_80 : decode cL_oldest 80 = .ok (.goto 4, 3) := by decide +kernel
theorem dL_oldest_83 : decode cL_oldest 83 = .ok (.iload_n 2, 1) := by decide +kernel
theorem dL_oldest_84 : decode cL_oldest 84 = .ok (.istore_n 2, 1) := by decide +kernel
theorem dL_oldest_85 : decode cL_oldest 85 = .ok (.iinc 3 1, 3) := by decide +kernel
theorem dL_oldest_88 : decode cL_oldest 88 = .ok (.goto (-83), 3) := by decide +kernel
theorem dL_oldest_91 : decode cL_oldest 91 = .ok (.iload_n 2, 1) := by decide +kernel
theorem dL_oldest_92 : decode cL_oldest 92 = .ok (.ireturn, 1) := by decide +kernel
theorem dL_inOrder_0 : decode cL_inOrder 0 = .ok (.aload_n 0, 1) := by decide +kernel
theorem dL_inOrder_1 : decode cL_inOrder 1 = .ok (.iconst 1, 1) := by decide +kernel
theorem dL_inOrder_2 : decode cL_inOrder 2 = .ok (.iload_n 1, 1) := by decide +kernel
theorem dL_inOrder_3 : decode cL_inOrder 3 = .ok (.iadd, 1) := by decide +kernel
theorem dL_inOrder_4 : decode cL_inOrder 4 = .ok (.invokevirtual 9, 3) := by decide +kernel
theorem dL_inOrder_7 : decode cL_inOrder 7 = .ok (.istore_n 2, 1) := by decide +kernel
theorem dL_inOrder_8 : decode cL_inOrder 8 = .ok (.iconst 0, 1) := by decide +kernel
theorem dL_inOrder_9 : decode cL_inOrder 9 = .ok (.istore_n 3, 1) := by decide +kernel
theorem dL_inOrder_10 : decode cL_inOrder 10 = .ok (.iload_n 3, 1) := by decide +kernel
theorem dL_inOrder_11 : decode cL_inOrder 11 = .ok (.iload_n 2, 1) := by decide +kernel
theorem dL_inOrder_12 : decode cL_inOrder 12 = .ok (.if_icmp .ge 200, 3) := by decide +kernel
theorem dL_inOrder_15 : decode cL_inOrder 15 = .ok (.aload_n 0, 1) := by decide +kernel
theorem dL_inOrder_16 : decode cL_inOrder 16 = .ok (.iload_n 1, 1) := by decide +kernel
theorem dL_inOrder_17 : decode cL_inOrder 17 = .ok (.iload_n 3, 1) := by decide +kernel
theorem dL_inOrder_18 : decode cL_inOrder 18 = .ok (.invokevirtual 15, 3) := by decide +kernel
theorem dL_inOrder_21 : decode cL_inOrder 21 = .ok (.istore 4, 2) := by decide +kernel
theorem dL_inOrder_23 : decode cL_inOrder 23 = .ok (.iload_n 3, 1) := by decide +kernel
theorem dL_inOrder_24 : decode cL_inOrder 24 = .ok (.ifCond .ne 7, 3) := by decide +kernel
theorem dL_inOrder_27 : decode cL_inOrder 27 = .ok (.iconst (-1), 1) := by decide +kernel
theorem dL_inOrder_28 : decode cL_inOrder 28 = .ok (.goto 11, 3) := by decide +kernel
theorem dL_inOrder_31 : decode cL_inOrder 31 = .ok (.aload_n 0, 1) := by decide +kernel
theorem dL_inOrder_32 : decode cL_inOrder 32 = .ok (.iload_n 1, 1) := by decide +kernel
theorem dL_inOrder_33 : decode cL_inOrder 33 = .ok (.iload_n 3, 1) := by decide +kernel
theorem dL_inOrder_34 : decode cL_inOrder 34 = .ok (.iconst 1, 1) := by decide +kernel
theorem dL_inOrder_35 : decode cL_inOrder 35 = .ok (.isub, 1) := by decide +kernel
theorem dL_inOrder_36 : decode cL_inOrder 36 = .ok (.invokevirtual 15, 3) := by decide +kernel
theorem dL_inOrder_39 : decode cL_inOrder 39 = .ok (.istore 5, 2) := by decide +kernel
theorem dL_inOrder_41 : decode cL_inOrder 41 = .ok (.iload 5, 2) := by decide +kernel
theorem dL_inOrder_43 : decode cL_inOrder 43 = .ok (.ifCond .lt 44, 3) := by decide +kernel
theorem dL_inOrder_46 : decode cL_inOrder 46 = .ok (.aload_n 0, 1) := by decide +kernel
theorem dL_inOrder_47 : decode cL_inOrder 47 = .ok (.iload 5, 2) := by decide +kernel
theorem dL_inOrder_49 : decode cL_inOrder 49 = .ok (.iconst 1, 1) := by decide +kernel
theorem dL_inOrder_50 : decode cL_inOrder 50 = .ok (.invokevirtual 19, 3) := by decide +kernel
theorem dL_inOrder_53 : decode cL_inOrder 53 = .ok (.aload_n 0, 1) := by decide +kernel
theorem dL_inOrder_54 : decode cL_inOrder 54 = .ok (.iload 4, 2) := by decide +kernel
theorem dL_inOrder_56 : decode cL_inOrder 56 = .ok (.iconst 1, 1) := by decide +kernel
theorem dL_inOrder_57 : decode cL_inOrder 57 = .ok (.invokevirtual 19, 3) := by decide +kernel
theorem dL_inOrder_60 : decode cL_inOrder 60 = .ok (.if_icmp .lt 27, 3) := by decide +kernel
theorem dL_inOrder_63 : decode cL_inOrder 63 = .ok (.aload_n 0, 1) := by decide +kernel
theorem dL_inOrder_64 : decode cL_inOrder 64 = .ok (.iload 5, 2) := by decide +kernel
theorem dL_inOrder_66 : decode cL_inOrder 66 = .ok (.iconst 1, 1) := by decide +kernel
theorem dL_inOrder_67 : decode cL_inOrder 67 = .ok (.invokevirtual 19, 3) := by decide +kernel
theorem dL_inOrder_70 : decode cL_inOrder 70 = .ok (.aload_n 0, 1) := by decide +kernel
theorem dL_inOrder_71 : decode cL_inOrder 71 = .ok (.iload 4, 2) := by decide +kernel
theorem dL_inOrder_73 : decode cL_inOrder 73 = .ok (.iconst 1, 1) := by decide +kernel
theorem dL_inOrder_74 : decode cL_inOrder 74 = .ok (.invokevirtual 19, 3) := by decide +kernel
theorem dL_inOrder_77 : decode cL_inOrder 77 = .ok (.if_icmp .ne 14, 3) := by decide +kernel
theorem dL_inOrder_80 : decode cL_inOrder 80 = .ok (.iload 5, 2) := by decide +kernel
theorem dL_inOrder_82 : decode cL_inOrder 82 = .ok (.iload 4, 2) := by decide +kernel
theorem dL_inOrder_84 : decode cL_inOrder 84 = .ok (.if_icmp .ge 7, 3) := by decide +kernel
theorem dL_inOrder_87 : decode cL_inOrder 87 = .ok (.iconst 1, 1) := by decide +kernel
theorem dL_inOrder_88 : decode cL_inOrder 88 = .ok (.goto 4, 3) := by decide +kernel
theorem dL_inOrder_91 : decode cL_inOrder 91 = .ok (.iconst 0, 1) := by decide +kernel
theorem dL_inOrder_92 : decode cL_inOrder 92 = .ok (.istore 6, 2) := by decide +kernel
theorem dL_inOrder_94 : decode cL_inOrder 94 = .ok (.aload_n 0, 1) := by decide +kernel
theorem dL_inOrder_95 : decode cL_inOrder 95 = .ok (.iload 4, 2) := by decide +kernel
theorem dL_inOrder_97 : decode cL_inOrder 97 = .ok (.iconst 0, 1) := by decide +kernel
theorem dL_inOrder_98 : decode cL_inOrder 98 = .ok (.invokevirtual 19, 3) := by decide +kernel
theorem dL_inOrder_101 : decode cL_inOrder 101 = .ok (.iload_n 1, 1) := by decide +kernel
theorem dL_inOrder_102 : decode cL_inOrder 102 = .ok (.if_icmp .ne 56, 3) := by decide +kernel
theorem dL_inOrder_105 : decode cL_inOrder 105 = .ok (.aload_n 0, 1) := by decide +kernel
theorem dL_inOrder_106 : decode cL_inOrder 106 = .ok (.iload 4, 2) := by decide +kernel
theorem dL_inOrder_108 : decode cL_inOrder 108 = .ok (.iconst 2, 1) := by decide +kernel
theorem dL_inOrder_109 : decode cL_inOrder 109 = .ok (.invokevirtual 19, 3) := by decide +kernel
theorem dL_inOrder_112 : decode cL_inOrder 112 = .ok (.bipush 99, 2) := by decide +kernel
theorem dL_inOrder_114 : decode cL_inOrder 114 = .ok (.if_icmp .gt 44, 3) := by decide +kernel
theorem dL_inOrder_117 : decode cL_inOrder 117 = .ok (.aload_n 0, 1) := by decide +kernel
theorem dL_inOrder_118 : decode cL_inOrder 118 = .ok (.iload 4, 2) := by decide +kernel
theorem dL_inOrder_120 : decode cL_inOrder 120 = .ok (.iconst 2, 1) := by decide +kernel
theorem dL_inOrder_121 : decode cL_inOrder 121 = .ok (.invokevirtual 19, 3) := by decide +kernel
theorem dL_inOrder_124 : decode cL_inOrder 124 = .ok (.aload_n 0, 1) := by decide +kernel
theorem dL_inOrder_125 : decode cL_inOrder 125 = .ok (.iload 4, 2) := by decide +kernel
theorem dL_inOrder_127 : decode cL_inOrder 127 = .ok (.iconst 1, 1) := by decide +kernel
theorem dL_inOrder_128 : decode cL_inOrder 128 = .ok (.invokevirtual 19, 3) := by decide +kernel
theorem dL_inOrder_131 : decode cL_inOrder 131 = .ok (.isub, 1) := by decide +kernel
theorem dL_inOrder_132 : decode cL_inOrder 132 = .ok (.bipush 9, 2) := by decide +kernel
theorem dL_inOrder_134 : decode cL_inOrder 134 = .ok (.if_icmp .ge 24, 3) := by decide +kernel
theorem dL_inOrder_137 : decode cL_inOrder 137 = .ok (.aload_n 0, 1) := by decide +kernel
theorem dL_inOrder_138 : decode cL_inOrder 138 = .ok (.iload 4, 2) := by decide +kernel
theorem dL_inOrder_140 : decode cL_inOrder 140 = .ok (.iconst 2, 1) := by decide +kernel
theorem dL_inOrder_141 : decode cL_inOrder 141 = .ok (.invokevirtual 19, 3) := by decide +kernel
theorem dL_inOrder_144 : decode cL_inOrder 144 = .ok (.aload_n 0, 1) := by decide +kernel
theorem dL_inOrder_145 : decode cL_inOrder 145 = .ok (.iload 4, 2) := by decide +kernel
theorem dL_inOrder_147 : decode cL_inOrder 147 = .ok (.iconst 1, 1) := by decide +kernel
theorem dL_inOrder_148 : decode cL_inOrder 148 = .ok (.invokevirtual 19, 3) := by decide +kernel
theorem dL_inOrder_151 : decode cL_inOrder 151 = .ok (.if_icmp .lt 7, 3) := by decide +kernel
theorem dL_inOrder_154 : decode cL_inOrder 154 = .ok (.iconst 1, 1) := by decide +kernel
theorem dL_inOrder_155 : decode cL_inOrder 155 = .ok (.goto 4, 3) := by decide +kernel
theorem dL_inOrder_158 : decode cL_inOrder 158 = .ok (.iconst 0, 1) := by decide +kernel
theorem dL_inOrder_159 : decode cL_inOrder 159 = .ok (.istore 7, 2) := by decide +kernel
theorem dL_inOrder_161 : decode cL_inOrder 161 = .ok (.iload 6, 2) := by decide +kernel
theorem dL_inOrder_163 : decode cL_inOrder 163 = .ok (.ifCond .eq 41, 3) := by decide +kernel
theorem dL_inOrder_166 : decode cL_inOrder 166 = .ok (.iload 7, 2) := by decide +kernel
theorem dL_inOrder_168 : decode cL_inOrder 168 = .ok (.ifCond .eq 36, 3) := by decide +kernel
theorem dL_inOrder_171 : decode cL_inOrder 171 = .ok (.aload_n 0, 1) := by decide +kernel
theorem dL_inOrder_172 : decode cL_inOrder 172 = .ok (.iload 4, 2) := by decide +kernel
theorem dL_inOrder_174 : decode cL_inOrder 174 = .ok (.iconst 4, 1) := by decide +kernel
theorem dL_inOrder_175 : decode cL_inOrder 175 = .ok (.invokevirtual 19, 3) := by decide +kernel
theorem dL_inOrder_178 : decode cL_inOrder 178 = .ok (.aload_n 0, 1) := by decide +kernel
theorem dL_inOrder_179 : decode cL_inOrder 179 = .ok (.iload 4, 2) := by decide +kernel
theorem dL_inOrder_181 : decode cL_inOrder 181 = .ok (.iconst 3, 1) := by decide +kernel
theorem dL_inOrder_182 : decode cL_inOrder 182 = .ok (.invokevirtual 19, 3) := by decide +kernel
theorem dL_inOrder_185 : decode cL_inOrder 185 = .ok (.aload_n 0, 1) := by decide +kernel
theorem dL_inOrder_186 : decode cL_inOrder 186 = .ok (.bipush 10, 2) := by decide +kernel
theorem dL_inOrder_188 : decode cL_inOrder 188 = .ok (.iload_n 1, 1) := by decide +kernel
theorem dL_inOrder_189 : decode cL_inOrder 189 = .ok (.iadd, 1) := by decide +kernel
theorem dL_inOrder_190 : decode cL_inOrder 190 = .ok (.invokevirtual 9, 3) := by decide +kernel
theorem dL_inOrder_193 : decode cL_inOrder 193 = .ok (.if_icmp .lt 7, 3) := by decide +kernel
theorem dL_inOrder_196 : decode cL_inOrder 196 = .ok (.iconst 1, 1) := by decide +kernel
theorem dL_inOrder_197 : decode cL_inOrder 197 = .ok (.goto 4, 3) := by decide +kernel
theorem dL_inOrder_200 : decode cL_inOrder 200 = .ok (.iconst 0, 1) := by decide +kernel
theorem dL_inOrder_201 : decode cL_inOrder 201 = .ok (.if_icmp .eq 5, 3) := by decide +kernel
theorem dL_inOrder_204 : decode cL_inOrder 204 = .ok (.iconst 0, 1) := by decide +kernel
theorem dL_inOrder_205 : decode cL_inOrder 205 = .ok (.ireturn, 1) := by decide +kernel
theorem dL_inOrder_206 : decode cL_inOrder 206 = .ok (.iinc 3 1, 3) := by decide +kernel
theorem dL_inOrder_209 : decode cL_inOrder 209 = .ok (.goto (-199), 3) := by decide +kernel
theorem dL_inOrder_212 : decode cL_inOrder 212 = .ok (.aload_n 0, 1) := by decide +kernel
theorem dL_inOrder_213 : decode cL_inOrder 213 = .ok (.iload_n 1, 1) := by decide +kernel
theorem dL_inOrder_214 : decode cL_inOrder 214 = .ok (.iload_n 2, 1) := by decide +kernel
theorem dL_inOrder_215 : decode cL_inOrder 215 = .ok (.invokevirtual 15, 3) := by decide +kernel
theorem dL_inOrder_218 : decode cL_inOrder 218 = .ok (.iconst (-1), 1) := by decide +kernel
theorem dL_inOrder_219 : decode cL_inOrder 219 = .ok (.if_icmp .ne 17, 3) := by decide +kernel
theorem dL_inOrder_222 : decode cL_inOrder 222 = .ok (.aload_n 0, 1) := by decide +kernel
theorem dL_inOrder_223 : decode cL_inOrder 223 = .ok (.iload_n 1, 1) := by decide +kernel
theorem dL_inOrder_224 : decode cL_inOrder 224 = .ok (.iconst (-1), 1) := by decide +kernel
theorem dL_inOrder_225 : decode cL_inOrder 225 = .ok (.invokevirtual 15, 3) := by decide +kernel
theorem dL_inOrder_228 : decode cL_inOrder 228 = .ok (.iconst (-1), 1) := by decide +kernel
theorem dL_inOrder_229 : decode cL_inOrder 229 = .ok (.if_icmp .ne 7, 3) := by decide +kernel
theorem dL_inOrder_232 : decode cL_inOrder 232 = .ok (.iconst 1, 1) := by decide +kernel
theorem dL_inOrder_233 : decode cL_inOrder 233 = .ok (.goto 4, 3) := by decide +kernel
theorem dL_inOrder_236 : decode cL_inOrder 236 = .ok (.iconst 0, 1) := by decide +kernel
theorem dL_inOrder_237 : decode cL_inOrder 237 = .ok (.ireturn, 1) := by decide +kernel
theorem dL_next_0 : decode cL_next 0 = .ok (.aload_n 0, 1) := by decide +kernel
theorem dL_next_1 : decode cL_next 1 = .ok (.iconst 1, 1) := by decide +kernel
theorem dL_next_2 : decode cL_next 2 = .ok (.invokevirtual 9, 3) := by decide +kernel
theorem dL_next_5 : decode cL_next 5 = .ok (.aload_n 0, 1) := by decide +kernel
theorem dL_next_6 : decode cL_next 6 = .ok (.iconst 2, 1) := by decide +kernel
theorem dL_next_7 : decode cL_next 7 = .ok (.invokevirtual 9, 3) := by decide +kernel
theorem dL_next_10 : decode cL_next 10 = .ok (.iadd, 1) := by decide +kernel
theorem dL_next_11 : decode cL_next 11 = .ok (.ifCond .ne 21, 3) := by decide +kernel
theorem dL_next_14 : decode cL_next 14 = .ok (.aload_n 0, 1) := by decide +kernel
theorem dL_next_15 : decode cL_next 15 = .ok (.iconst 0, 1) := by decide +kernel
theorem dL_next_16 : decode cL_next 16 = .ok (.invokevirtual 22, 3) := by decide +kernel
theorem dL_next_19 : decode cL_next 19 = .ok (.bipush (-6), 2) := by decide +kernel
theorem dL_next_21 : decode cL_next 21 = .ok (.if_icmp .ne 8, 3) := by decide +kernel
theorem dL_next_24 : decode cL_next 24 = .ok (.bipush (-6), 2) := by decide +kernel
theorem dL_next_26 : decode cL_next 26 = .ok (.goto 5, 3) := by decide +kernel
theorem dL_next_29 : decode cL_next 29 = .ok (.bipush (-7), 2) := by decide +kernel
theorem dL_next_31 : decode cL_next 31 = .ok (.ireturn, 1) := by decide +kernel
theorem dL_next_32 : decode cL_next 32 = .ok (.iload_n 1, 1) := by decide +kernel
theorem dL_next_33 : decode cL_next 33 = .ok (.iconst 2, 1) := by decide +kernel
theorem dL_next_34 : decode cL_next 34 = .ok (.if_icmp .ge 31, 3) := by decide +kernel
theorem dL_next_37 : decode cL_next 37 = .ok (.aload_n 0, 1) := by decide +kernel
theorem dL_next_38 : decode cL_next 38 = .ok (.bipush 8, 2) := by decide +kernel
theorem dL_next_40 : decode cL_next 40 = .ok (.invokevirtual 9, 3) := by decide +kernel
theorem dL_next_43 : decode cL_next 43 = .ok (.aload_n 0, 1) := by decide +kernel
theorem dL_next_44 : decode cL_next 44 = .ok (.bipush 12, 2) := by decide +kernel
theorem dL_next_46 : decode cL_next 46 = .ok (.invokevirtual 9, 3) := by decide +kernel
theorem dL_next_49 : decode cL_next 49 = .ok (.if_icmp .ge 16, 3) := by decide +kernel
theorem dL_next_52 : decode cL_next 52 = .ok (.aload_n 0, 1) := by decide +kernel
theorem dL_next_53 : decode cL_next 53 = .ok (.iload_n 1, 1) := by decide +kernel
theorem dL_next_54 : decode cL_next 54 = .ok (.aload_n 0, 1) := by decide +kernel
theorem dL_next_55 : decode cL_next 55 = .ok (.iconst 3, 1) := by decide +kernel
theorem dL_next_56 : decode cL_next 56 = .ok (.invokevirtual 9, 3) := by decide +kernel
theorem dL_next_59 : decode cL_next 59 = .ok (.invokestatic 25, 3) := by decide +kernel
theorem dL_next_62 : decode cL_next 62 = .ok (.goto 5, 3) := by decide +kernel
theorem dL_next_65 : decode cL_next 65 = .ok (.bipush (-6), 2) := by decide +kernel
theorem dL_next_67 : decode cL_next 67 = .ok (.istore_n 2, 1) := by decide +kernel
theorem dL_next_68 : decode cL_next 68 = .ok (.iload_n 2, 1) := by decide +kernel
theorem dL_next_69 : decode cL_next 69 = .ok (.ifCond .lt 27, 3) := by decide +kernel
theorem dL_next_72 : decode cL_next 72 = .ok (.aload_n 0, 1) := by decide +kernel
theorem dL_next_73 : decode cL_next 73 = .ok (.iconst 1, 1) := by decide +kernel
theorem dL_next_74 : decode cL_next 74 = .ok (.invokevirtual 22, 3) := by decide +kernel
theorem dL_next_77 : decode cL_next 77 = .ok (.ifCond .ne 16, 3) := by decide +kernel
theorem dL_next_80 : decode cL_next 80 = .ok (.aload_n 0, 1) := by decide +kernel
theorem dL_next_81 : decode cL_next 81 = .ok (.iconst 0, 1) := by decide +kernel
theorem dL_next_82 : decode cL_next 82 = .ok (.invokevirtual 22, 3) := by decide +kernel
theorem dL_next_85 : decode cL_next 85 = .ok (.iload_n 2, 1) := by decide +kernel
theorem dL_next_86 : decode cL_next 86 = .ok (.if_icmp .ne 7, 3) := by decide +kernel
theorem dL_next_89 : decode cL_next 89 = .ok (.iload_n 2, 1) := by decide +kernel
theorem dL_next_90 : decode cL_next 90 = .ok (.goto 5, 3) := by decide +kernel
theorem dL_next_93 : decode cL_next 93 = .ok (.bipush (-7), 2) := by decide +kernel
theorem dL_next_95 : decode cL_next 95 = .ok (.ireturn, 1) := by decide +kernel
theorem dL_next_96 : decode cL_next 96 = .ok (.aload_n 0, 1) := by decide +kernel
theorem dL_next_97 : decode cL_next 97 = .ok (.iconst 2, 1) := by decide +kernel
theorem dL_next_98 : decode cL_next 98 = .ok (.invokevirtual 9, 3) := by decide +kernel
theorem dL_next_101 : decode cL_next 101 = .ok (.ifCond .ne 7, 3) := by decide +kernel
theorem dL_next_104 : decode cL_next 104 = .ok (.iconst 0, 1) := by decide +kernel
theorem dL_next_105 : decode cL_next 105 = .ok (.goto 35, 3) := by decide +kernel
theorem dL_next_108 : decode cL_next 108 = .ok (.aload_n 0, 1) := by decide +kernel
theorem dL_next_109 : decode cL_next 109 = .ok (.iconst 1, 1) := by decide +kernel
theorem dL_next_110 : decode cL_next 110 = .ok (.invokevirtual 9, 3) := by decide +kernel
theorem dL_next_113 : decode cL_next 113 = .ok (.ifCond .ne 7, 3) := by decide +kernel
theorem dL_next_116 : decode cL_next 116 = .ok (.iconst 1, 1) := by decide +kernel
theorem dL_next_117 : decode cL_next 117 = .ok (.goto 23, 3) := by decide +kernel
theorem dL_next_120 : decode cL_next 120 = .ok (.aload_n 0, 1) := by decide +kernel
theorem dL_next_121 : decode cL_next 121 = .ok (.bipush 9, 2) := by decide +kernel
theorem dL_next_123 : decode cL_next 123 = .ok (.invokevirtual 9, 3) := by decide +kernel
theorem dL_next_126 : decode cL_next 126 = .ok (.aload_n 0, 1) := by decide +kernel
theorem dL_next_127 : decode cL_next 127 = .ok (.bipush 13, 2) := by decide +kernel
theorem dL_next_129 : decode cL_next 129 = .ok (.invokevirtual 9, 3) := by decide +kernel
theorem dL_next_132 : decode cL_next 132 = .ok (.if_icmp .lt 7, 3) := by decide +kernel
theorem dL_next_135 : decode cL_next 135 = .ok (.iconst 1, 1) := by decide +kernel
theorem dL_next_136 : decode cL_next 136 = .ok (.goto 4, 3) := by decide +kernel
theorem dL_next_139 : decode cL_next 139 = .ok (.iconst 0, 1) := by decide +kernel
theorem dL_next_140 : decode cL_next 140 = .ok (.istore_n 3, 1) := by decide +kernel
theorem dL_next_141 : decode cL_next 141 = .ok (.aload_n 0, 1) := by decide +kernel
theorem dL_next_142 : decode cL_next 142 = .ok (.iload_n 3, 1) := by decide +kernel
theorem dL_next_143 : decode cL_next 143 = .ok (.invokestatic 31, 3) := by decide +kernel
theorem dL_next_146 : decode cL_next 146 = .ok (.istore 4, 2) := by decide +kernel
theorem dL_next_148 : decode cL_next 148 = .ok (.aload_n 0, 1) := by decide +kernel
theorem dL_next_149 : decode cL_next 149 = .ok (.iload 4, 2) := by decide +kernel
theorem dL_next_151 : decode cL_next 151 = .ok (.iconst 4, 1) := by decide +kernel
theorem dL_next_152 : decode cL_next 152 = .ok (.invokevirtual 19, 3) := by decide +kernel
theorem dL_next_155 : decode cL_next 155 = .ok (.iconst 1, 1) := by decide +kernel
theorem dL_next_156 : decode cL_next 156 = .ok (.if_icmp .ne 30, 3) := by decide +kernel
theorem dL_next_159 : decode cL_next 159 = .ok (.aload_n 0, 1) := by decide +kernel
theorem dL_next_160 : decode cL_next 160 = .ok (.iconst 1, 1) := by decide +kernel
theorem dL_next_161 : decode cL_next 161 = .ok (.invokevirtual 22, 3) := by decide +kernel
theorem dL_next_164 : decode cL_next 164 = .ok (.iconst 1, 1) := by decide +kernel
theorem dL_next_165 : decode cL_next 165 = .ok (.if_icmp .ne 18, 3) := by decide +kernel
theorem dL_next_168 : decode cL_next 168 = .ok (.aload_n 0, 1) := by decide +kernel
theorem dL_next_169 : decode cL_next 169 = .ok (.iconst 0, 1) := by decide +kernel
theorem dL_next_170 : decode cL_next 170 = .ok (.invokevirtual 22, 3) := by decide +kernel
theorem dL_next_173 : decode cL_next 173 = .ok (.iload 4, 2) := by decide +kernel
theorem dL_next_175 : decode cL_next 175 = .ok (.if_icmp .ne 8, 3) := by decide +kernel
theorem dL_next_178 : decode cL_next 178 = .ok (.iload 4, 2) := by decide +kernel
theorem dL_next_180 : decode cL_next 180 = .ok (.goto 5, 3) := by decide +kernel
theorem dL_next_183 : decode cL_next 183 = .ok (.bipush (-7), 2) := by decide +kernel
theorem dL_next_185 : decode cL_next 185 = .ok (.ireturn, 1) := by decide +kernel
theorem dL_next_186 : decode cL_next 186 = .ok (.aload_n 0, 1) := by decide +kernel
theorem dL_next_187 : decode cL_next 187 = .ok (.iload_n 3, 1) := by decide +kernel
theorem dL_next_188 : decode cL_next 188 = .ok (.aload_n 0, 1) := by decide +kernel
theorem dL_next_189 : decode cL_next 189 = .ok (.iconst 3, 1) := by decide +kernel
theorem dL_next_190 : decode cL_next 190 = .ok (.invokevirtual 9, 3) := by decide +kernel
theorem dL_next_193 : decode cL_next 193 = .ok (.invokestatic 25, 3) := by decide +kernel
theorem dL_next_196 : decode cL_next 196 = .ok (.istore 5, 2) := by decide +kernel
theorem dL_next_198 : decode cL_next 198 = .ok (.iload 5, 2) := by decide +kernel
theorem dL_next_200 : decode cL_next 200 = .ok (.ifCond .lt 8, 3) := by decide +kernel
theorem dL_next_203 : decode cL_next 203 = .ok (.iload 5, 2) := by decide +kernel
theorem dL_next_205 : decode cL_next 205 = .ok (.goto 9, 3) := by decide +kernel
theorem dL_next_208 : decode cL_next 208 = .ok (.aload_n 0, 1) := by decide +kernel
theorem dL_next_209 : decode cL_next 209 = .ok (.iload_n 3, 1) := by decide +kernel
theorem dL_next_210 : decode cL_next 210 = .ok (.iconst 0, 1) := by decide +kernel
theorem dL_next_211 : decode cL_next 211 = .ok (.invokestatic 25, 3) := by decide +kernel
theorem dL_next_214 : decode cL_next 214 = .ok (.istore 6, 2) := by decide +kernel
theorem dL_next_216 : decode cL_next 216 = .ok (.aload_n 0, 1) := by decide +kernel
theorem dL_next_217 : decode cL_next 217 = .ok (.iconst 1, 1) := by decide +kernel
theorem dL_next_218 : decode cL_next 218 = .ok (.invokevirtual 22, 3) := by decide +kernel
theorem dL_next_221 : decode cL_next 221 = .ok (.iload 5, 2) := by decide +kernel
theorem dL_next_223 : decode cL_next 223 = .ok (.ifCond .lt 7, 3) := by decide +kernel
theorem dL_next_226 : decode cL_next 226 = .ok (.iconst 2, 1) := by decide +kernel
theorem dL_next_227 : decode cL_next 227 = .ok (.goto 4, 3) := by decide +kernel
theorem dL_next_230 : decode cL_next 230 = .ok (.iconst 3, 1) := by decide +kernel
theorem dL_next_231 : decode cL_next 231 = .ok (.if_icmp .ne 18, 3) := by decide +kernel
theorem dL_next_234 : decode cL_next 234 = .ok (.aload_n 0, 1) := by decide +kernel
theorem dL_next_235 : decode cL_next 235 = .ok (.iconst 0, 1) := by decide +kernel
theorem dL_next_236 : decode cL_next 236 = .ok (.invokevirtual 22, 3) := by decide +kernel
theorem dL_next_239 : decode cL_next 239 = .ok (.iload 6, 2) := by decide +kernel
theorem dL_next_241 : decode cL_next 241 = .ok (.if_icmp .ne 8, 3) := by decide +kernel
theorem dL_next_244 : decode cL_next 244 = .ok (.iload 6, 2) := by decide +kernel
theorem dL_next_246 : decode cL_next 246 = .ok (.goto 5, 3) := by decide +kernel
theorem dL_next_249 : decode cL_next 249 = .ok (.bipush (-7), 2) := by decide +kernel
theorem dL_next_251 : decode cL_next 251 = .ok (.ireturn, 1) := by decide +kernel
theorem dL_served_0 : decode cL_served 0 = .ok (.aload_n 0, 1) := by decide +kernel
theorem dL_served_1 : decode cL_served 1 = .ok (.iload_n 1, 1) := by decide +kernel
theorem dL_served_2 : decode cL_served 2 = .ok (.invokestatic 35, 3) := by decide +kernel
theorem dL_served_5 : decode cL_served 5 = .ok (.istore_n 2, 1) := by decide +kernel
theorem dL_served_6 : decode cL_served 6 = .ok (.iload_n 2, 1) := by decide +kernel
theorem dL_served_7 : decode cL_served 7 = .ok (.ifCond .ge 26, 3) := by decide +kernel
theorem dL_served_10 : decode cL_served 10 = .ok (.iload_n 2, 1) := by decide +kernel
theorem dL_served_11 : decode cL_served 11 = .ok (.bipush (-6), 2) := by decide +kernel
theorem dL_served_13 : decode cL_served 13 = .ok (.if_icmp .ne 17, 3) := by decide +kernel
theorem dL_served_16 : decode cL_served 16 = .ok (.aload_n 0, 1) := by decide +kernel
theorem dL_served_17 : decode cL_served 17 = .ok (.iconst 1, 1) := by decide +kernel
theorem dL_served_18 : decode cL_served 18 = .ok (.invokevirtual 37, 3) := by decide +kernel
theorem dL_served_21 : decode cL_served 21 = .ok (.bipush (-5), 2) := by decide +kernel
theorem dL_served_23 : decode cL_served 23 = .ok (.if_icmp .ne 7, 3) := by decide +kernel
theorem dL_served_26 : decode cL_served 26 = .ok (.iload_n 1, 1) := by decide +kernel
theorem dL_served_27 : decode cL_served 27 = .ok (.goto 5, 3) := by decide +kernel
theorem dL_served_30 : decode cL_served 30 = .ok (.bipush (-7), 2) := by decide +kernel
theorem dL_served_32 : decode cL_served 32 = .ok (.ireturn, 1) := by decide +kernel
theorem dL_served_33 : decode cL_served 33 = .ok (.aload_n 0, 1) := by decide +kernel
theorem dL_served_34 : decode cL_served 34 = .ok (.iload_n 2, 1) := by decide +kernel
theorem dL_served_35 : decode cL_served 35 = .ok (.iconst 1, 1) := by decide +kernel
theorem dL_served_36 : decode cL_served 36 = .ok (.invokevirtual 19, 3) := by decide +kernel
theorem dL_served_39 : decode cL_served 39 = .ok (.istore_n 3, 1) := by decide +kernel
theorem dL_served_40 : decode cL_served 40 = .ok (.aload_n 0, 1) := by decide +kernel
theorem dL_served_41 : decode cL_served 41 = .ok (.iload_n 2, 1) := by decide +kernel
theorem dL_served_42 : decode cL_served 42 = .ok (.iconst 2, 1) := by decide +kernel
theorem dL_served_43 : decode cL_served 43 = .ok (.invokevirtual 19, 3) := by decide +kernel
theorem dL_served_46 : decode cL_served 46 = .ok (.istore 4, 2) := by decide +kernel
theorem dL_served_48 : decode cL_served 48 = .ok (.aload_n 0, 1) := by decide +kernel
theorem dL_served_49 : decode cL_served 49 = .ok (.iload_n 2, 1) := by decide +kernel
theorem dL_served_50 : decode cL_served 50 = .ok (.iconst 3, 1) := by decide +kernel
theorem dL_served_51 : decode cL_served 51 = .ok (.invokevirtual 19, 3) := by decide +kernel
theorem dL_served_54 : decode cL_served 54 = .ok (.istore 5, 2) := by decide +kernel
theorem dL_served_56 : decode cL_served 56 = .ok (.aload_n 0, 1) := by decide +kernel
theorem dL_served_57 : decode cL_served 57 = .ok (.iload_n 2, 1) := by decide +kernel
theorem dL_served_58 : decode cL_served 58 = .ok (.iconst 0, 1) := by decide +kernel
theorem dL_served_59 : decode cL_served 59 = .ok (.invokevirtual 19, 3) := by decide +kernel
theorem dL_served_62 : decode cL_served 62 = .ok (.istore 6, 2) := by decide +kernel
theorem dL_served_64 : decode cL_served 64 = .ok (.iload_n 3, 1) := by decide +kernel
theorem dL_served_65 : decode cL_served 65 = .ok (.aload_n 0, 1) := by decide +kernel
theorem dL_served_66 : decode cL_served 66 = .ok (.iconst 3, 1) := by decide +kernel
theorem dL_served_67 : decode cL_served 67 = .ok (.invokevirtual 9, 3) := by decide +kernel
theorem dL_served_70 : decode cL_served 70 = .ok (.invokestatic 40, 3) := by decide +kernel
theorem dL_served_73 : decode cL_served 73 = .ok (.istore 7, 2) := by decide +kernel
theorem dL_served_75 : decode cL_served 75 = .ok (.aload_n 0, 1) := by decide +kernel
theorem dL_served_76 : decode cL_served 76 = .ok (.bipush 14, 2) := by decide +kernel
theorem dL_served_78 : decode cL_served 78 = .ok (.invokevirtual 9, 3) := by decide +kernel
theorem dL_served_81 : decode cL_served 81 = .ok (.iload 7, 2) := by decide +kernel
theorem dL_served_83 : decode cL_served 83 = .ok (.imul, 1) := by decide +kernel
theorem dL_served_84 : decode cL_served 84 = .ok (.aload_n 0, 1) := by decide +kernel
theorem dL_served_85 : decode cL_served 85 = .ok (.bipush 15, 2) := by decide +kernel
theorem dL_served_87 : decode cL_served 87 = .ok (.invokevirtual 9, 3) := by decide +kernel
theorem dL_served_90 : decode cL_served 90 = .ok (.iload 4, 2) := by decide +kernel
theorem dL_served_92 : decode cL_served 92 = .ok (.iload_n 3, 1) := by decide +kernel
theorem dL_served_93 : decode cL_served 93 = .ok (.isub, 1) := by decide +kernel
theorem dL_served_94 : decode cL_served 94 = .ok (.iconst 1, 1) := by decide +kernel
theorem dL_served_95 : decode cL_served 95 = .ok (.iadd, 1) := by decide +kernel
theorem dL_served_96 : decode cL_served 96 = .ok (.imul, 1) := by decide +kernel
theorem dL_served_97 : decode cL_served 97 = .ok (.iadd, 1) := by decide +kernel
theorem dL_served_98 : decode cL_served 98 = .ok (.istore 8, 2) := by decide +kernel
theorem dL_served_100 : decode cL_served 100 = .ok (.aload_n 0, 1) := by decide +kernel
theorem dL_served_101 : decode cL_served 101 = .ok (.iconst 0, 1) := by decide +kernel
theorem dL_served_102 : decode cL_served 102 = .ok (.invokevirtual 9, 3) := by decide +kernel
theorem dL_served_105 : decode cL_served 105 = .ok (.istore 9, 2) := by decide +kernel
theorem dL_served_107 : decode cL_served 107 = .ok (.aload_n 0, 1) := by decide +kernel
theorem dL_served_108 : decode cL_served 108 = .ok (.bipush 6, 2) := by decide +kernel
theorem dL_served_110 : decode cL_served 110 = .ok (.invokevirtual 9, 3) := by decide +kernel
theorem dL_served_113 : decode cL_served 113 = .ok (.istore 10, 2) := by decide +kernel
theorem dL_served_115 : decode cL_served 115 = .ok (.aload_n 0, 1) := by decide +kernel
theorem dL_served_116 : decode cL_served 116 = .ok (.iconst 4, 1) := by decide +kernel
theorem dL_served_117 : decode cL_served 117 = .ok (.invokevirtual 9, 3) := by decide +kernel
theorem dL_served_120 : decode cL_served 120 = .ok (.istore 11, 2) := by decide +kernel
theorem dL_served_122 : decode cL_served 122 = .ok (.aload_n 0, 1) := by decide +kernel
theorem dL_served_123 : decode cL_served 123 = .ok (.iconst 5, 1) := by decide +kernel
theorem dL_served_124 : decode cL_served 124 = .ok (.invokevirtual 9, 3) := by decide +kernel
theorem dL_served_127 : decode cL_served 127 = .ok (.istore 12, 2) := by decide +kernel
theorem dL_served_129 : decode cL_served 129 = .ok (.aload_n 0, 1) := by decide +kernel
theorem dL_served_130 : decode cL_served 130 = .ok (.bipush 7, 2) := by decide +kernel
theorem dL_served_132 : decode cL_served 132 = .ok (.invokevirtual 9, 3) := by decide +kernel
theorem dL_served_135 : decode cL_served 135 = .ok (.istore 13, 2) := by decide +kernel
theorem dL_served_137 : decode cL_served 137 = .ok (.aload_n 0, 1) := by decide +kernel
theorem dL_served_138 : decode cL_served 138 = .ok (.bipush 8, 2) := by decide +kernel
theorem dL_served_140 : decode cL_served 140 = .ok (.invokevirtual 9, 3) := by decide +kernel
theorem dL_served_143 : decode cL_served 143 = .ok (.istore 14, 2) := by decide +kernel
theorem dL_served_145 : decode cL_served 145 = .ok (.aload_n 0, 1) := by decide +kernel
theorem dL_served_146 : decode cL_served 146 = .ok (.bipush 9, 2) := by decide +kernel
theorem dL_served_148 : decode cL_served 148 = .ok (.invokevirtual 9, 3) := by decide +kernel
theorem dL_served_151 : decode cL_served 151 = .ok (.istore 15, 2) := by decide +kernel
theorem dL_served_153 : decode cL_served 153 = .ok (.aload_n 0, 1) := by decide +kernel
theorem dL_served_154 : decode cL_served 154 = .ok (.iconst 1, 1) := by decide +kernel
theorem dL_served_155 : decode cL_served 155 = .ok (.invokevirtual 22, 3) := by decide +kernel
theorem dL_served_158 : decode cL_served 158 = .ok (.ifCond .le 7, 3) := by decide +kernel
theorem dL_served_161 : decode cL_served 161 = .ok (.iconst 1, 1) := by decide +kernel
theorem dL_served_162 : decode cL_served 162 = .ok (.goto 4, 3) := by decide +kernel
theorem dL_served_165 : decode cL_served 165 = .ok (.iconst 0, 1) := by decide +kernel
theorem dL_served_166 : decode cL_served 166 = .ok (.istore 16, 2) := by decide +kernel
theorem dL_served_168 : decode cL_served 168 = .ok (.aload_n 0, 1) := by decide +kernel
theorem dL_served_169 : decode cL_served 169 = .ok (.iconst 2, 1) := by decide +kernel
theorem dL_served_170 : decode cL_served 170 = .ok (.invokevirtual 9, 3) := by decide +kernel
theorem dL_served_173 : decode cL_served 173 = .ok (.ifCond .le 7, 3) := by decide +kernel
theorem dL_served_176 : decode cL_served 176 = .ok (.iconst 1, 1) := by decide +kernel
theorem dL_served_177 : decode cL_served 177 = .ok (.goto 4, 3) := by decide +kernel
theorem dL_served_180 : decode cL_served 180 = .ok (.iconst 0, 1) := by decide +kernel
theorem dL_served_181 : decode cL_served 181 = .ok (.istore 17, 2) := by decide +kernel
theorem dL_served_183 : decode cL_served 183 = .ok (.aload_n 0, 1) := by decide +kernel
theorem dL_served_184 : decode cL_served 184 = .ok (.iconst 2, 1) := by decide +kernel
theorem dL_served_185 : decode cL_served 185 = .ok (.invokevirtual 22, 3) := by decide +kernel
theorem dL_served_188 : decode cL_served 188 = .ok (.iload 9, 2) := by decide +kernel
theorem dL_served_190 : decode cL_served 190 = .ok (.iload 8, 2) := by decide +kernel
theorem dL_served_192 : decode cL_served 192 = .ok (.iadd, 1) := by decide +kernel
theorem dL_served_193 : decode cL_served 193 = .ok (.if_icmp .ne 32, 3) := by decide +kernel
theorem dL_served_196 : decode cL_served 196 = .ok (.aload_n 0, 1) := by decide +kernel
theorem dL_served_197 : decode cL_served 197 = .ok (.iload_n 2, 1) := by decide +kernel
theorem dL_served_198 : decode cL_served 198 = .ok (.invokevirtual 43, 3) := by decide +kernel
theorem dL_served_201 : decode cL_served 201 = .ok (.iload 8, 2) := by decide +kernel
theorem dL_served_203 : decode cL_served 203 = .ok (.if_icmp .ne 22, 3) := by decide +kernel
theorem dL_served_206 : decode cL_served 206 = .ok (.aload_n 0, 1) := by decide +kernel
theorem dL_served_207 : decode cL_served 207 = .ok (.iconst 1, 1) := by decide +kernel
theorem dL_served_208 : decode cL_served 208 = .ok (.invokevirtual 37, 3) := by decide +kernel
theorem dL_served_211 : decode cL_served 211 = .ok (.iconst 1, 1) := by decide +kernel
theorem dL_served_212 : decode cL_served 212 = .ok (.if_icmp .ne 13, 3) := by decide +kernel
theorem dL_served_215 : decode cL_served 215 = .ok (.aload_n 0, 1) := by decide +kernel
theorem dL_served_216 : decode cL_served 216 = .ok (.iload_n 2, 1) := by decide +kernel
theorem dL_served_217 : decode cL_served 217 = .ok (.iconst 0, 1) := by decide +kernel
theorem dL_served_218 : decode cL_served 218 = .ok (.invokevirtual 19, 3) := by decide +kernel
theorem dL_served_221 : decode cL_served 221 = .ok (.iconst (-1), 1) := by decide +kernel
theorem dL_served_222 : decode cL_served 222 = .ok (.if_icmp .eq 6, 3) := by decide +kernel
theorem dL_served_225 : decode cL_served 225 = .ok (.bipush (-7), 2) := by decide +kernel
theorem dL_served_227 : decode cL_served 227 = .ok (.ireturn, 1) := by decide +kernel
theorem dL_served_228 : decode cL_served 228 = .ok (.aload_n 0, 1) := by decide +kernel
theorem dL_served_229 : decode cL_served 229 = .ok (.iconst 0, 1) := by decide +kernel
theorem dL_served_230 : decode cL_served 230 = .ok (.invokevirtual 9, 3) := by decide +kernel
theorem dL_served_233 : decode cL_served 233 = .ok (.iload 9, 2) := by decide +kernel
theorem dL_served_235 : decode cL_served 235 = .ok (.iload 8, 2) := by decide +kernel
theorem dL_served_237 : decode cL_served 237 = .ok (.iadd, 1) := by decide +kernel
theorem dL_served_238 : decode cL_served 238 = .ok (.if_icmp .ne 57, 3) := by decide +kernel
theorem dL_served_241 : decode cL_served 241 = .ok (.aload_n 0, 1) := by decide +kernel
theorem dL_served_242 : decode cL_served 242 = .ok (.bipush 6, 2) := by decide +kernel
theorem dL_served_244 : decode cL_served 244 = .ok (.invokevirtual 9, 3) := by decide +kernel
theorem dL_served_247 : decode cL_served 247 = .ok (.iload 10, 2) := by decide +kernel
theorem dL_served_249 : decode cL_served 249 = .ok (.iload 7, 2) := by decide +kernel
theorem dL_served_251 : decode cL_served 251 = .ok (.iadd, 1) := by decide +kernel
theorem dL_served_252 : decode cL_served 252 = .ok (.if_icmp .ne 43, 3) := by decide +kernel
theorem dL_served_255 : decode cL_served 255 = .ok (.aload_n 0, 1) := by decide +kernel
theorem dL_served_256 : decode cL_served 256 = .ok (.iconst 4, 1) := by decide +kernel
theorem dL_served_257 : decode cL_served 257 = .ok (.invokevirtual 9, 3) := by decide +kernel
theorem dL_served_260 : decode cL_served 260 = .ok (.iload 11, 2) := by decide +kernel
theorem dL_served_262 : decode cL_served 262 = .ok (.iconst 1, 1) := by decide +kernel
theorem dL_served_263 : decode cL_served 263 = .ok (.iadd, 1) := by decide +kernel
theorem dL_served_264 : decode cL_served 264 = .ok (.if_icmp .ne 31, 3) := by decide +kernel
theorem dL_served_267 : decode cL_served 267 = .ok (.aload_n 0, 1) := by decide +kernel
theorem dL_served_268 : decode cL_served 268 = .ok (.iconst 3, 1) := by decide +kernel
theorem dL_served_269 : decode cL_served 269 = .ok (.invokevirtual 9, 3) := by decide +kernel
theorem dL_served_272 : decode cL_served 272 = .ok (.iload 4, 2) := by decide +kernel
theorem dL_served_274 : decode cL_served 274 = .ok (.bipush 99, 2) := by decide +kernel
theorem dL_served_276 : decode cL_served 276 = .ok (.if_icmp .ge 10, 3) := by decide +kernel
theorem dL_served_279 : decode cL_served 279 = .ok (.iload 4, 2) := by decide +kernel
theorem dL_served_281 : decode cL_served 281 = .ok (.iconst 1, 1) := by decide +kernel
theorem dL_served_282 : decode cL_served 282 = .ok (.iadd, 1) := by decide +kernel
theorem dL_served_283 : decode cL_served 283 = .ok (.goto 5, 3) := by decide +kernel
theorem dL_served_286 : decode cL_served 286 = .ok (.bipush 99, 2) := by decide +kernel
theorem dL_served_288 : decode cL_served 288 = .ok (.if_icmp .ne 7, 3) := by decide +kernel
theorem dL_served_291 : decode cL_served 291 = .ok (.iconst 1, 1) := by decide +kernel
theorem dL_served_292 : decode cL_served 292 = .ok (.goto 4, 3) := by decide +kernel
theorem dL_served_295 : decode cL_served 295 = .ok (.iconst 0, 1) := by decide +kernel
theorem dL_served_296 : decode cL_served 296 = .ok (.istore 18, 2) := by decide +kernel
theorem dL_served_298 : decode cL_served 298 = .ok (.iload 18, 2) := by decide +kernel
theorem dL_served_300 : decode cL_served 300 = .ok (.ifCond .eq 70, 3) := by decide +kernel
theorem dL_served_303 : decode cL_served 303 = .ok (.aload_n 0, 1) := by decide +kernel
theorem dL_served_304 : decode cL_served 304 = .ok (.iconst 0, 1) := by decide +kernel
theorem dL_served_305 : decode cL_served 305 = .ok (.iconst 0, 1) := by decide +kernel
theorem dL_served_306 : decode cL_served 306 = .ok (.invokevirtual 46, 3) := by decide +kernel
theorem dL_served_309 : decode cL_served 309 = .ok (.iload_n 2, 1) := by decide +kernel
theorem dL_served_310 : decode cL_served 310 = .ok (.if_icmp .ne 60, 3) := by decide +kernel
theorem dL_served_313 : decode cL_served 313 = .ok (.aload_n 0, 1) := by decide +kernel
theorem dL_served_314 : decode cL_served 314 = .ok (.iconst 0, 1) := by decide +kernel
theorem dL_served_315 : decode cL_served 315 = .ok (.iconst 1, 1) := by decide +kernel
theorem dL_served_316 : decode cL_served 316 = .ok (.invokevirtual 46, 3) := by decide +kernel
theorem dL_served_319 : decode cL_served 319 = .ok (.iload 5, 2) := by decide +kernel
theorem dL_served_321 : decode cL_served 321 = .ok (.iload 8, 2) := by decide +kernel
theorem dL_served_323 : decode cL_served 323 = .ok (.iadd, 1) := by decide +kernel
theorem dL_served_324 : decode cL_served 324 = .ok (.if_icmp .ne 46, 3) := by decide +kernel
theorem dL_served_327 : decode cL_served 327 = .ok (.aload_n 0, 1) := by decide +kernel
theorem dL_served_328 : decode cL_served 328 = .ok (.iconst 0, 1) := by decide +kernel
theorem dL_served_329 : decode cL_served 329 = .ok (.iconst 2, 1) := by decide +kernel
theorem dL_served_330 : decode cL_served 330 = .ok (.invokevirtual 46, 3) := by decide +kernel
theorem dL_served_333 : decode cL_served 333 = .ok (.iload 6, 2) := by decide +kernel
theorem dL_served_335 : decode cL_served 335 = .ok (.if_icmp .ne 35, 3) := by decide +kernel
theorem dL_served_338 : decode cL_served 338 = .ok (.aload_n 0, 1) := by decide +kernel
theorem dL_served_339 : decode cL_served 339 = .ok (.iconst 5, 1) := by decide +kernel
theorem dL_served_340 : decode cL_served 340 = .ok (.invokevirtual 9, 3) := by decide +kernel
theorem dL_served_343 : decode cL_served 343 = .ok (.iload 5, 2) := by decide +kernel
theorem dL_served_345 : decode cL_served 345 = .ok (.iload 8, 2) := by decide +kernel
theorem dL_served_347 : decode cL_served 347 = .ok (.iadd, 1) := by decide +kernel
theorem dL_served_348 : decode cL_served 348 = .ok (.iload 12, 2) := by decide +kernel
theorem dL_served_350 : decode cL_served 350 = .ok (.if_icmp .le 11, 3) := by decide +kernel
theorem dL_served_353 : decode cL_served 353 = .ok (.iload 5, 2) := by decide +kernel
theorem dL_served_355 : decode cL_served 355 = .ok (.iload 8, 2) := by decide +kernel
theorem dL_served_357 : decode cL_served 357 = .ok (.iadd, 1) := by decide +kernel
theorem dL_served_358 : decode cL_served 358 = .ok (.goto 5, 3) := by decide +kernel
theorem dL_served_361 : decode cL_served 361 = .ok (.iload 12, 2) := by decide +kernel
theorem dL_served_363 : decode cL_served 363 = .ok (.if_icmp .ne 7, 3) := by decide +kernel
theorem dL_served_366 : decode cL_served 366 = .ok (.iconst 1, 1) := by decide +kernel
theorem dL_served_367 : decode cL_served 367 = .ok (.goto 4, 3) := by decide +kernel
theorem dL_served_370 : decode cL_served 370 = .ok (.iconst 0, 1) := by decide +kernel
theorem dL_served_371 : decode cL_served 371 = .ok (.istore 18, 2) := by decide +kernel
theorem dL_served_373 : decode cL_served 373 = .ok (.iload 18, 2) := by decide +kernel
theorem dL_served_375 : decode cL_served 375 = .ok (.ifCond .eq 51, 3) := by decide +kernel
theorem dL_served_378 : decode cL_served 378 = .ok (.aload_n 0, 1) := by decide +kernel
theorem dL_served_379 : decode cL_served 379 = .ok (.bipush 7, 2) := by decide +kernel
theorem dL_served_381 : decode cL_served 381 = .ok (.invokevirtual 9, 3) := by decide +kernel
theorem dL_served_384 : decode cL_served 384 = .ok (.iload 13, 2) := by decide +kernel
theorem dL_served_386 : decode cL_served 386 = .ok (.iload 16, 2) := by decide +kernel
theorem dL_served_388 : decode cL_served 388 = .ok (.ifCond .eq 7, 3) := by decide +kernel
theorem dL_served_391 : decode cL_served 391 = .ok (.iconst 1, 1) := by decide +kernel
theorem dL_served_392 : decode cL_served 392 = .ok (.goto 4, 3) := by decide +kernel
theorem dL_served_395 : decode cL_served 395 = .ok (.iconst 0, 1) := by decide +kernel
theorem dL_served_396 : decode cL_served 396 = .ok (.iadd, 1) := by decide +kernel
theorem dL_served_397 : decode cL_served 397 = .ok (.if_icmp .ne 29, 3) := by decide +kernel
theorem dL_served_400 : decode cL_served 400 = .ok (.aload_n 0, 1) := by decide +kernel
theorem dL_served_401 : decode cL_served 401 = .ok (.bipush 8, 2) := by decide +kernel
theorem dL_served_403 : decode cL_served 403 = .ok (.invokevirtual 9, 3) := by decide +kernel
theorem dL_served_406 : decode cL_served 406 = .ok (.iload 16, 2) := by decide +kernel
theorem dL_served_408 : decode cL_served 408 = .ok (.ifCond .eq 7, 3) := by decide +kernel
theorem dL_served_411 : decode cL_served 411 = .ok (.iconst 1, 1) := by decide +kernel
theorem dL_served_412 : decode cL_served 412 = .ok (.goto 7, 3) := by decide +kernel
theorem dL_served_415 : decode cL_served 415 = .ok (.iload 14, 2) := by decide +kernel
theorem dL_served_417 : decode cL_served 417 = .ok (.iconst 1, 1) := by decide +kernel
theorem dL_served_418 : decode cL_served 418 = .ok (.iadd, 1) := by decide +kernel
theorem dL_served_419 : decode cL_served 419 = .ok (.if_icmp .ne 7, 3) := by decide +kernel
theorem dL_served_422 : decode cL_served 422 = .ok (.iconst 1, 1) := by decide +kernel
theorem dL_served_423 : decode cL_served 423 = .ok (.goto 4, 3) := by decide +kernel
theorem dL_served_426 : decode cL_served 426 = .ok (.iconst 0, 1) := by decide +kernel
theorem dL_served_427 : decode cL_served 427 = .ok (.istore 18, 2) := by decide +kernel
theorem dL_served_429 : decode cL_served 429 = .ok (.iload 18, 2) := by decide +kernel
theorem dL_served_431 : decode cL_served 431 = .ok (.ifCond .eq 50, 3) := by decide +kernel
theorem dL_served_434 : decode cL_served 434 = .ok (.aload_n 0, 1) := by decide +kernel
theorem dL_served_435 : decode cL_served 435 = .ok (.bipush 9, 2) := by decide +kernel
theorem dL_served_437 : decode cL_served 437 = .ok (.invokevirtual 9, 3) := by decide +kernel
theorem dL_served_440 : decode cL_served 440 = .ok (.iload 16, 2) := by decide +kernel
theorem dL_served_442 : decode cL_served 442 = .ok (.ifCond .ne 8, 3) := by decide +kernel
theorem dL_served_445 : decode cL_served 445 = .ok (.iload 15, 2) := by decide +kernel
theorem dL_served_447 : decode cL_served 447 = .ok (.goto 27, 3) := by decide +kernel
theorem dL_served_450 : decode cL_served 450 = .ok (.iload 6, 2) := by decide +kernel
theorem dL_served_452 : decode cL_served 452 = .ok (.iconst 1, 1) := by decide +kernel
theorem dL_served_453 : decode cL_served 453 = .ok (.if_icmp .ne 7, 3) := by decide +kernel
theorem dL_served_456 : decode cL_served 456 = .ok (.iconst 0, 1) := by decide +kernel
theorem dL_served_457 : decode cL_served 457 = .ok (.goto 17, 3) := by decide +kernel
theorem dL_served_460 : decode cL_served 460 = .ok (.iload 17, 2) := by decide +kernel
theorem dL_served_462 : decode cL_served 462 = .ok (.ifCond .eq 10, 3) := by decide +kernel
theorem dL_served_465 : decode cL_served 465 = .ok (.iload 15, 2) := by decide +kernel
theorem dL_served_467 : decode cL_served 467 = .ok (.iconst 1, 1) := by decide +kernel
theorem dL_served_468 : decode cL_served 468 = .ok (.iadd, 1) := by decide +kernel
theorem dL_served_469 : decode cL_served 469 = .ok (.goto 5, 3) := by decide +kernel
theorem dL_served_472 : decode cL_served 472 = .ok (.iload 15, 2) := by decide +kernel
theorem dL_served_474 : decode cL_served 474 = .ok (.if_icmp .ne 7, 3) := by decide +kernel
theorem dL_served_477 : decode cL_served 477 = .ok (.iconst 1, 1) := by decide +kernel
theorem dL_served_478 : decode cL_served 478 = .ok (.goto 4, 3) := by decide +kernel
theorem dL_served_481 : decode cL_served 481 = .ok (.iconst 0, 1) := by decide +kernel
theorem dL_served_482 : decode cL_served 482 = .ok (.istore 18, 2) := by decide +kernel
theorem dL_served_484 : decode cL_served 484 = .ok (.iload 18, 2) := by decide +kernel
theorem dL_served_486 : decode cL_served 486 = .ok (.ifCond .eq 8, 3) := by decide +kernel
theorem dL_served_489 : decode cL_served 489 = .ok (.iload 6, 2) := by decide +kernel
theorem dL_served_491 : decode cL_served 491 = .ok (.goto 5, 3) := by decide +kernel
theorem dL_served_494 : decode cL_served 494 = .ok (.bipush (-7), 2) := by decide +kernel
theorem dL_served_496 : decode cL_served 496 = .ok (.ireturn, 1) := by decide +kernel
theorem dL_comes_0 : decode cL_comes 0 = .ok (.bipush (-6), 2) := by decide +kernel
theorem dL_comes_2 : decode cL_comes 2 = .ok (.istore 4, 2) := by decide +kernel
theorem dL_comes_4 : decode cL_comes 4 = .ok (.iconst 0, 1) := by decide +kernel
theorem dL_comes_5 : decode cL_comes 5 = .ok (.istore 5, 2) := by decide +kernel
theorem dL_comes_7 : decode cL_comes 7 = .ok (.iload 5, 2) := by decide +kernel
theorem dL_comes_9 : decode cL_comes 9 = .ok (.aload_n 0, 1) := by decide +kernel
theorem dL_comes_10 : decode cL_comes 10 = .ok (.iconst 1, 1) := by decide +kernel
theorem dL_comes_11 : decode cL_comes 11 = .ok (.iload_n 1, 1) := by decide +kernel
theorem dL_comes_12 : decode cL_comes 12 = .ok (.iadd, 1) := by decide +kernel
theorem dL_comes_13 : decode cL_comes 13 = .ok (.invokevirtual 9, 3) := by decide +kernel
theorem dL_comes_16 : decode cL_comes 16 = .ok (.if_icmp .ge 88, 3) := by decide +kernel
theorem dL_comes_19 : decode cL_comes 19 = .ok (.iload_n 2, 1) := by decide +kernel
theorem dL_comes_20 : decode cL_comes 20 = .ok (.iload_n 3, 1) := by decide +kernel
theorem dL_comes_21 : decode cL_comes 21 = .ok (.iadd, 1) := by decide +kernel
theorem dL_comes_22 : decode cL_comes 22 = .ok (.bipush 100, 2) := by decide +kernel
theorem dL_comes_24 : decode cL_comes 24 = .ok (.if_icmp .gt 80, 3) := by decide +kernel
theorem dL_comes_27 : decode cL_comes 27 = .ok (.aload_n 0, 1) := by decide +kernel
theorem dL_comes_28 : decode cL_comes 28 = .ok (.iload_n 1, 1) := by decide +kernel
theorem dL_comes_29 : decode cL_comes 29 = .ok (.iload 5, 2) := by decide +kernel
theorem dL_comes_31 : decode cL_comes 31 = .ok (.invokevirtual 15, 3) := by decide +kernel
theorem dL_comes_34 : decode cL_comes 34 = .ok (.istore 6, 2) := by decide +kernel
theorem dL_comes_36 : decode cL_comes 36 = .ok (.aload_n 0, 1) := by decide +kernel
theorem dL_comes_37 : decode cL_comes 37 = .ok (.iload 6, 2) := by decide +kernel
theorem dL_comes_39 : decode cL_comes 39 = .ok (.iconst 2, 1) := by decide +kernel
theorem dL_comes_40 : decode cL_comes 40 = .ok (.invokevirtual 19, 3) := by decide +kernel
theorem dL_comes_43 : decode cL_comes 43 = .ok (.iload_n 2, 1) := by decide +kernel
theorem dL_comes_44 : decode cL_comes 44 = .ok (.iconst 1, 1) := by decide +kernel
theorem dL_comes_45 : decode cL_comes 45 = .ok (.isub, 1) := by decide +kernel
theorem dL_comes_46 : decode cL_comes 46 = .ok (.if_icmp .ne 23, 3) := by decide +kernel
theorem dL_comes_49 : decode cL_comes 49 = .ok (.iload_n 2, 1) := by decide +kernel
theorem dL_comes_50 : decode cL_comes 50 = .ok (.aload_n 0, 1) := by decide +kernel
theorem dL_comes_51 : decode cL_comes 51 = .ok (.iload 6, 2) := by decide +kernel
theorem dL_comes_53 : decode cL_comes 53 = .ok (.iconst 1, 1) := by decide +kernel
theorem dL_comes_54 : decode cL_comes 54 = .ok (.invokevirtual 19, 3) := by decide +kernel
theorem dL_comes_57 : decode cL_comes 57 = .ok (.isub, 1) := by decide +kernel
theorem dL_comes_58 : decode cL_comes 58 = .ok (.iload_n 3, 1) := by decide +kernel
theorem dL_comes_59 : decode cL_comes 59 = .ok (.iadd, 1) := by decide +kernel
theorem dL_comes_60 : decode cL_comes 60 = .ok (.bipush 9, 2) := by decide +kernel
theorem dL_comes_62 : decode cL_comes 62 = .ok (.if_icmp .gt 7, 3) := by decide +kernel
theorem dL_comes_65 : decode cL_comes 65 = .ok (.iconst 1, 1) := by decide +kernel
theorem dL_comes_66 : decode cL_comes 66 = .ok (.goto 4, 3) := by decide +kernel
theorem dL_comes_69 : decode cL_comes 69 = .ok (.iconst 0, 1) := by decide +kernel
theorem dL_comes_70 : decode cL_comes 70 = .ok (.istore 7, 2) := by decide +kernel
theorem dL_comes_72 : decode cL_comes 72 = .ok (.iload 7, 2) := by decide +kernel
theorem dL_comes_74 : decode cL_comes 74 = .ok (.ifCond .eq 20, 3) := by decide +kernel
theorem dL_comes_77 : decode cL_comes 77 = .ok (.iload 4, 2) := by decide +kernel
theorem dL_comes_79 : decode cL_comes 79 = .ok (.ifCond .lt 10, 3) := by decide +kernel
theorem dL_comes_82 : decode cL_comes 82 = .ok (.iload 6, 2) := by decide +kernel
theorem dL_comes_84 : decode cL_comes 84 = .ok (.iload 4, 2) := by decide +kernel
theorem dL_comes_86 : decode cL_comes 86 = .ok (.if_icmp .ge 8, 3) := by decide +kernel
theorem dL_comes_89 : decode cL_comes 89 = .ok (.iload 6, 2) := by decide +kernel
theorem dL_comes_91 : decode cL_comes 91 = .ok (.goto 5, 3) := by decide +kernel
theorem dL_comes_94 : decode cL_comes 94 = .ok (.iload 4, 2) := by decide +kernel
theorem dL_comes_96 : decode cL_comes 96 = .ok (.istore 4, 2) := by decide +kernel
theorem dL_comes_98 : decode cL_comes 98 = .ok (.iinc 5 1, 3) := by decide +kernel
theorem dL_comes_101 : decode cL_comes 101 = .ok (.goto (-94), 3) := by decide +kernel
theorem dL_comes_104 : decode cL_comes 104 = .ok (.aload_n 0, 1) := by decide +kernel
theorem dL_comes_105 : decode cL_comes 105 = .ok (.iconst 1, 1) := by decide +kernel
theorem dL_comes_106 : decode cL_comes 106 = .ok (.invokevirtual 9, 3) := by decide +kernel
theorem dL_comes_109 : decode cL_comes 109 = .ok (.aload_n 0, 1) := by decide +kernel
theorem dL_comes_110 : decode cL_comes 110 = .ok (.iconst 2, 1) := by decide +kernel
theorem dL_comes_111 : decode cL_comes 111 = .ok (.invokevirtual 9, 3) := by decide +kernel
theorem dL_comes_114 : decode cL_comes 114 = .ok (.iadd, 1) := by decide +kernel
theorem dL_comes_115 : decode cL_comes 115 = .ok (.istore 5, 2) := by decide +kernel
theorem dL_comes_117 : decode cL_comes 117 = .ok (.iload_n 2, 1) := by decide +kernel
theorem dL_comes_118 : decode cL_comes 118 = .ok (.iload_n 3, 1) := by decide +kernel
theorem dL_comes_119 : decode cL_comes 119 = .ok (.iadd, 1) := by decide +kernel
theorem dL_comes_120 : decode cL_comes 120 = .ok (.bipush 100, 2) := by decide +kernel
theorem dL_comes_122 : decode cL_comes 122 = .ok (.if_icmp .gt 7, 3) := by decide +kernel
theorem dL_comes_125 : decode cL_comes 125 = .ok (.iconst 1, 1) := by decide +kernel
theorem dL_comes_126 : decode cL_comes 126 = .ok (.goto 4, 3) := by decide +kernel
theorem dL_comes_129 : decode cL_comes 129 = .ok (.iconst 0, 1) := by decide +kernel
theorem dL_comes_130 : decode cL_comes 130 = .ok (.istore 6, 2) := by decide +kernel
theorem dL_comes_132 : decode cL_comes 132 = .ok (.aload_n 0, 1) := by decide +kernel
theorem dL_comes_133 : decode cL_comes 133 = .ok (.iload_n 1, 1) := by decide +kernel
theorem dL_comes_134 : decode cL_comes 134 = .ok (.iload_n 2, 1) := by decide +kernel
theorem dL_comes_135 : decode cL_comes 135 = .ok (.iload_n 3, 1) := by decide +kernel
theorem dL_comes_136 : decode cL_comes 136 = .ok (.invokevirtual 49, 3) := by decide +kernel
theorem dL_comes_139 : decode cL_comes 139 = .ok (.iload 6, 2) := by decide +kernel
theorem dL_comes_141 : decode cL_comes 141 = .ok (.ifCond .eq 8, 3) := by decide +kernel
theorem dL_comes_144 : decode cL_comes 144 = .ok (.iload 4, 2) := by decide +kernel
theorem dL_comes_146 : decode cL_comes 146 = .ok (.goto 5, 3) := by decide +kernel
theorem dL_comes_149 : decode cL_comes 149 = .ok (.bipush (-2), 2) := by decide +kernel
theorem dL_comes_151 : decode cL_comes 151 = .ok (.if_icmp .eq 5, 3) := by decide +kernel
theorem dL_comes_154 : decode cL_comes 154 = .ok (.iconst 0, 1) := by decide +kernel
theorem dL_comes_155 : decode cL_comes 155 = .ok (.ireturn, 1) := by decide +kernel
theorem dL_comes_156 : decode cL_comes 156 = .ok (.iload 4, 2) := by decide +kernel
theorem dL_comes_158 : decode cL_comes 158 = .ok (.ifCond .ge 7, 3) := by decide +kernel
theorem dL_comes_161 : decode cL_comes 161 = .ok (.iconst 0, 1) := by decide +kernel
theorem dL_comes_162 : decode cL_comes 162 = .ok (.goto 10, 3) := by decide +kernel
theorem dL_comes_165 : decode cL_comes 165 = .ok (.aload_n 0, 1) := by decide +kernel
theorem dL_comes_166 : decode cL_comes 166 = .ok (.iload 4, 2) := by decide +kernel
theorem dL_comes_168 : decode cL_comes 168 = .ok (.iconst 5, 1) := by decide +kernel
theorem dL_comes_169 : decode cL_comes 169 = .ok (.invokevirtual 19, 3) := by decide +kernel
theorem dL_comes_172 : decode cL_comes 172 = .ok (.istore 7, 2) := by decide +kernel
theorem dL_comes_174 : decode cL_comes 174 = .ok (.aload_n 0, 1) := by decide +kernel
theorem dL_comes_175 : decode cL_comes 175 = .ok (.iload_n 1, 1) := by decide +kernel
theorem dL_comes_176 : decode cL_comes 176 = .ok (.iload_n 2, 1) := by decide +kernel
theorem dL_comes_177 : decode cL_comes 177 = .ok (.iload_n 3, 1) := by decide +kernel
theorem dL_comes_178 : decode cL_comes 178 = .ok (.invokevirtual 53, 3) := by decide +kernel
theorem dL_comes_181 : decode cL_comes 181 = .ok (.istore 8, 2) := by decide +kernel
theorem dL_comes_183 : decode cL_comes 183 = .ok (.iload 6, 2) := by decide +kernel
theorem dL_comes_185 : decode cL_comes 185 = .ok (.ifCond .eq 15, 3) := by decide +kernel
theorem dL_comes_188 : decode cL_comes 188 = .ok (.iload 4, 2) := by decide +kernel
theorem dL_comes_190 : decode cL_comes 190 = .ok (.ifCond .ge 49, 3) := by decide +kernel
theorem dL_comes_193 : decode cL_comes 193 = .ok (.iload 5, 2) := by decide +kernel
theorem dL_comes_195 : decode cL_comes 195 = .ok (.bipush 30, 2) := by decide +kernel
theorem dL_comes_197 : decode cL_comes 197 = .ok (.if_icmp .ne 42, 3) := by decide +kernel
theorem dL_comes_200 : decode cL_comes 200 = .ok (.iload 8, 2) := by decide +kernel
theorem dL_comes_202 : decode cL_comes 202 = .ok (.iload 6, 2) := by decide +kernel
theorem dL_comes_204 : decode cL_comes 204 = .ok (.ifCond .eq 8, 3) := by decide +kernel
theorem dL_comes_207 : decode cL_comes 207 = .ok (.bipush (-4), 2) := by decide +kernel
theorem dL_comes_209 : decode cL_comes 209 = .ok (.goto 5, 3) := by decide +kernel
theorem dL_comes_212 : decode cL_comes 212 = .ok (.bipush (-2), 2) := by decide +kernel
theorem dL_comes_214 : decode cL_comes 214 = .ok (.if_icmp .ne 23, 3) := by decide +kernel
theorem dL_comes_217 : decode cL_comes 217 = .ok (.aload_n 0, 1) := by decide +kernel
theorem dL_comes_218 : decode cL_comes 218 = .ok (.iconst 1, 1) := by decide +kernel
theorem dL_comes_219 : decode cL_comes 219 = .ok (.invokevirtual 9, 3) := by decide +kernel
theorem dL_comes_222 : decode cL_comes 222 = .ok (.aload_n 0, 1) := by decide +kernel
theorem dL_comes_223 : decode cL_comes 223 = .ok (.iconst 2, 1) := by decide +kernel
theorem dL_comes_224 : decode cL_comes 224 = .ok (.invokevirtual 9, 3) := by decide +kernel
theorem dL_comes_227 : decode cL_comes 227 = .ok (.iadd, 1) := by decide +kernel
theorem dL_comes_228 : decode cL_comes 228 = .ok (.iload 5, 2) := by decide +kernel
theorem dL_comes_230 : decode cL_comes 230 = .ok (.if_icmp .ne 7, 3) := by decide +kernel
theorem dL_comes_233 : decode cL_comes 233 = .ok (.iconst 1, 1) := by decide +kernel
theorem dL_comes_234 : decode cL_comes 234 = .ok (.goto 4, 3) := by decide +kernel
theorem dL_comes_237 : decode cL_comes 237 = .ok (.iconst 0, 1) := by decide +kernel
theorem dL_comes_238 : decode cL_comes 238 = .ok (.ireturn, 1) := by decide +kernel
theorem dL_comes_239 : decode cL_comes 239 = .ok (.iload 4, 2) := by decide +kernel
theorem dL_comes_241 : decode cL_comes 241 = .ok (.ifCond .lt 61, 3) := by decide +kernel
theorem dL_comes_244 : decode cL_comes 244 = .ok (.iload 8, 2) := by decide +kernel
theorem dL_comes_246 : decode cL_comes 246 = .ok (.iload 4, 2) := by decide +kernel
theorem dL_comes_248 : decode cL_comes 248 = .ok (.if_icmp .ne 52, 3) := by decide +kernel
theorem dL_comes_251 : decode cL_comes 251 = .ok (.aload_n 0, 1) := by decide +kernel
theorem dL_comes_252 : decode cL_comes 252 = .ok (.iload 4, 2) := by decide +kernel
theorem dL_comes_254 : decode cL_comes 254 = .ok (.iconst 2, 1) := by decide +kernel
theorem dL_comes_255 : decode cL_comes 255 = .ok (.invokevirtual 19, 3) := by decide +kernel
theorem dL_comes_258 : decode cL_comes 258 = .ok (.iload_n 2, 1) := by decide +kernel
theorem dL_comes_259 : decode cL_comes 259 = .ok (.iload_n 3, 1) := by decide +kernel
theorem dL_comes_260 : decode cL_comes 260 = .ok (.iadd, 1) := by decide +kernel
theorem dL_comes_261 : decode cL_comes 261 = .ok (.iconst 1, 1) := by decide +kernel
theorem dL_comes_262 : decode cL_comes 262 = .ok (.isub, 1) := by decide +kernel
theorem dL_comes_263 : decode cL_comes 263 = .ok (.if_icmp .ne 37, 3) := by decide +kernel
theorem dL_comes_266 : decode cL_comes 266 = .ok (.aload_n 0, 1) := by decide +kernel
theorem dL_comes_267 : decode cL_comes 267 = .ok (.iload 4, 2) := by decide +kernel
theorem dL_comes_269 : decode cL_comes 269 = .ok (.iconst 5, 1) := by decide +kernel
theorem dL_comes_270 : decode cL_comes 270 = .ok (.invokevirtual 19, 3) := by decide +kernel
theorem dL_comes_273 : decode cL_comes 273 = .ok (.iload 7, 2) := by decide +kernel
theorem dL_comes_275 : decode cL_comes 275 = .ok (.iconst 1, 1) := by decide +kernel
theorem dL_comes_276 : decode cL_comes 276 = .ok (.iadd, 1) := by decide +kernel
theorem dL_comes_277 : decode cL_comes 277 = .ok (.if_icmp .ne 23, 3) := by decide +kernel
theorem dL_comes_280 : decode cL_comes 280 = .ok (.aload_n 0, 1) := by decide +kernel
theorem dL_comes_281 : decode cL_comes 281 = .ok (.iconst 1, 1) := by decide +kernel
theorem dL_comes_282 : decode cL_comes 282 = .ok (.invokevirtual 9, 3) := by decide +kernel
theorem dL_comes_285 : decode cL_comes 285 = .ok (.aload_n 0, 1) := by decide +kernel
theorem dL_comes_286 : decode cL_comes 286 = .ok (.iconst 2, 1) := by decide +kernel
theorem dL_comes_287 : decode cL_comes 287 = .ok (.invokevirtual 9, 3) := by decide +kernel
theorem dL_comes_290 : decode cL_comes 290 = .ok (.iadd, 1) := by decide +kernel
theorem dL_comes_291 : decode cL_comes 291 = .ok (.iload 5, 2) := by decide +kernel
theorem dL_comes_293 : decode cL_comes 293 = .ok (.if_icmp .ne 7, 3) := by decide +kernel
theorem dL_comes_296 : decode cL_comes 296 = .ok (.iconst 1, 1) := by decide +kernel
theorem dL_comes_297 : decode cL_comes 297 = .ok (.goto 4, 3) := by decide +kernel
theorem dL_comes_300 : decode cL_comes 300 = .ok (.iconst 0, 1) := by decide +kernel
theorem dL_comes_301 : decode cL_comes 301 = .ok (.ireturn, 1) := by decide +kernel
theorem dL_comes_302 : decode cL_comes 302 = .ok (.aload_n 0, 1) := by decide +kernel
theorem dL_comes_303 : decode cL_comes 303 = .ok (.iconst 1, 1) := by decide +kernel
theorem dL_comes_304 : decode cL_comes 304 = .ok (.invokevirtual 9, 3) := by decide +kernel
theorem dL_comes_307 : decode cL_comes 307 = .ok (.aload_n 0, 1) := by decide +kernel
theorem dL_comes_308 : decode cL_comes 308 = .ok (.iconst 2, 1) := by decide +kernel
theorem dL_comes_309 : decode cL_comes 309 = .ok (.invokevirtual 9, 3) := by decide +kernel
theorem dL_comes_312 : decode cL_comes 312 = .ok (.iadd, 1) := by decide +kernel
theorem dL_comes_313 : decode cL_comes 313 = .ok (.iload 5, 2) := by decide +kernel
theorem dL_comes_315 : decode cL_comes 315 = .ok (.iconst 1, 1) := by decide +kernel
theorem dL_comes_316 : decode cL_comes 316 = .ok (.iadd, 1) := by decide +kernel
theorem dL_comes_317 : decode cL_comes 317 = .ok (.if_icmp .ne 64, 3) := by decide +kernel
theorem dL_comes_320 : decode cL_comes 320 = .ok (.aload_n 0, 1) := by decide +kernel
theorem dL_comes_321 : decode cL_comes 321 = .ok (.iload 8, 2) := by decide +kernel
theorem dL_comes_323 : decode cL_comes 323 = .ok (.iconst 1, 1) := by decide +kernel
theorem dL_comes_324 : decode cL_comes 324 = .ok (.invokevirtual 19, 3) := by decide +kernel
theorem dL_comes_327 : decode cL_comes 327 = .ok (.iload_n 2, 1) := by decide +kernel
theorem dL_comes_328 : decode cL_comes 328 = .ok (.if_icmp .ne 53, 3) := by decide +kernel
theorem dL_comes_331 : decode cL_comes 331 = .ok (.aload_n 0, 1) := by decide +kernel
theorem dL_comes_332 : decode cL_comes 332 = .ok (.iload 8, 2) := by decide +kernel
theorem dL_comes_334 : decode cL_comes 334 = .ok (.iconst 2, 1) := by decide +kernel
theorem dL_comes_335 : decode cL_comes 335 = .ok (.invokevirtual 19, 3) := by decide +kernel
theorem dL_comes_338 : decode cL_comes 338 = .ok (.iload_n 2, 1) := by decide +kernel
theorem dL_comes_339 : decode cL_comes 339 = .ok (.iload_n 3, 1) := by decide +kernel
theorem dL_comes_340 : decode cL_comes 340 = .ok (.iadd, 1) := by decide +kernel
theorem dL_comes_341 : decode cL_comes 341 = .ok (.iconst 1, 1) := by decide +kernel
theorem dL_comes_342 : decode cL_comes 342 = .ok (.isub, 1) := by decide +kernel
theorem dL_comes_343 : decode cL_comes 343 = .ok (.if_icmp .ne 38, 3) := by decide +kernel
theorem dL_comes_346 : decode cL_comes 346 = .ok (.aload_n 0, 1) := by decide +kernel
theorem dL_comes_347 : decode cL_comes 347 = .ok (.iload 8, 2) := by decide +kernel
theorem dL_comes_349 : decode cL_comes 349 = .ok (.iconst 3, 1) := by decide +kernel
theorem dL_comes_350 : decode cL_comes 350 = .ok (.invokevirtual 19, 3) := by decide +kernel
theorem dL_comes_353 : decode cL_comes 353 = .ok (.ifCond .ne 28, 3) := by decide +kernel
theorem dL_comes_356 : decode cL_comes 356 = .ok (.aload_n 0, 1) := by decide +kernel
theorem dL_comes_357 : decode cL_comes 357 = .ok (.iload 8, 2) := by decide +kernel
theorem dL_comes_359 : decode cL_comes 359 = .ok (.iconst 5, 1) := by decide +kernel
theorem dL_comes_360 : decode cL_comes 360 = .ok (.invokevirtual 19, 3) := by decide +kernel
theorem dL_comes_363 : decode cL_comes 363 = .ok (.ifCond .ne 18, 3) := by decide +kernel
theorem dL_comes_366 : decode cL_comes 366 = .ok (.aload_n 0, 1) := by decide +kernel
theorem dL_comes_367 : decode cL_comes 367 = .ok (.iload 8, 2) := by decide +kernel
theorem dL_comes_369 : decode cL_comes 369 = .ok (.iconst 0, 1) := by decide +kernel
theorem dL_comes_370 : decode cL_comes 370 = .ok (.invokevirtual 19, 3) := by decide +kernel
theorem dL_comes_373 : decode cL_comes 373 = .ok (.iload_n 1, 1) := by decide +kernel
theorem dL_comes_374 : decode cL_comes 374 = .ok (.if_icmp .ne 7, 3) := by decide +kernel
theorem dL_comes_377 : decode cL_comes 377 = .ok (.iconst 1, 1) := by decide +kernel
theorem dL_comes_378 : decode cL_comes 378 = .ok (.goto 4, 3) := by decide +kernel
theorem dL_comes_381 : decode cL_comes 381 = .ok (.iconst 0, 1) := by decide +kernel
theorem dL_comes_382 : decode cL_comes 382 = .ok (.ireturn, 1) := by decide +kernel
