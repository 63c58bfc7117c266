theorem dM_init_0 : decode cM_init 0 = .ok (.aload_n 0, 1) := by decide +kernel
theorem dM_init_1 : decode cM_init 1 = .ok (.invokespecial 1, 3) := by decide +kernel
theorem dM_init_4 : decode cM_init 4 = .ok (.aload_n 0, 1) := by decide +kernel
theorem dM_init_5 : decode cM_init 5 = .ok (.bipush 61, 2) := by decide +kernel
theorem dM_init_7 : decode cM_init 7 = .ok (.newarray .int, 2) := by decide +kernel
theorem dM_init_9 : decode cM_init 9 = .ok (.putfield 7, 3) := by decide +kernel
theorem dM_init_12 : decode cM_init 12 = .ok (.aload_n 0, 1) := by decide +kernel
theorem dM_init_13 : decode cM_init 13 = .ok (.bipush 61, 2) := by decide +kernel
theorem dM_init_15 : decode cM_init 15 = .ok (.newarray .int, 2) := by decide +kernel
theorem dM_init_17 : decode cM_init 17 = .ok (.putfield 13, 3) := by decide +kernel
theorem dM_init_20 : decode cM_init 20 = .ok (.aload_n 0, 1) := by decide +kernel
theorem dM_init_21 : decode cM_init 21 = .ok (.bipush 61, 2) := by decide +kernel
theorem dM_init_23 : decode cM_init 23 = .ok (.newarray .int, 2) := by decide +kernel
theorem dM_init_25 : decode cM_init 25 = .ok (.putfield 16, 3) := by decide +kernel
theorem dM_init_28 : decode cM_init 28 = .ok (.aload_n 0, 1) := by decide +kernel
theorem dM_init_29 : decode cM_init 29 = .ok (.bipush 61, 2) := by decide +kernel
theorem dM_init_31 : decode cM_init 31 = .ok (.newarray .int, 2) := by decide +kernel
theorem dM_init_33 : decode cM_init 33 = .ok (.putfield 19, 3) := by decide +kernel
theorem dM_init_36 : decode cM_init 36 = .ok (.aload_n 0, 1) := by decide +kernel
theorem dM_init_37 : decode cM_init 37 = .ok (.bipush 61, 2) := by decide +kernel
theorem dM_init_39 : decode cM_init 39 = .ok (.newarray .int, 2) := by decide +kernel
theorem dM_init_41 : decode cM_init 41 = .ok (.putfield 22, 3) := by decide +kernel
theorem dM_init_44 : decode cM_init 44 = .ok (.aload_n 0, 1) := by decide +kernel
theorem dM_init_45 : decode cM_init 45 = .ok (.bipush 61, 2) := by decide +kernel
theorem dM_init_47 : decode cM_init 47 = .ok (.newarray .boolean, 2) := by decide +kernel
theorem dM_init_49 : decode cM_init 49 = .ok (.putfield 25, 3) := by decide +kernel
theorem dM_init_52 : decode cM_init 52 = .ok (.aload_n 0, 1) := by decide +kernel
theorem dM_init_53 : decode cM_init 53 = .ok (.sipush 200, 3) := by decide +kernel
theorem dM_init_56 : decode cM_init 56 = .ok (.newarray .int, 2) := by decide +kernel
theorem dM_init_58 : decode cM_init 58 = .ok (.putfield 29, 3) := by decide +kernel
theorem dM_init_61 : decode cM_init 61 = .ok (.aload_n 0, 1) := by decide +kernel
theorem dM_init_62 : decode cM_init 62 = .ok (.sipush 200, 3) := by decide +kernel
theorem dM_init_65 : decode cM_init 65 = .ok (.newarray .int, 2) := by decide +kernel
theorem dM_init_67 : decode cM_init 67 = .ok (.putfield 32, 3) := by decide +kernel
theorem dM_init_70 : decode cM_init 70 = .ok (.aload_n 0, 1) := by decide +kernel
theorem dM_init_71 : decode cM_init 71 = .ok (.sipush 200, 3) := by decide +kernel
theorem dM_init_74 : decode cM_init 74 = .ok (.newarray .int, 2) := by decide +kernel
theorem dM_init_76 : decode cM_init 76 = .ok (.putfield 35, 3) := by decide +kernel
theorem dM_init_79 : decode cM_init 79 = .ok (.aload_n 0, 1) := by decide +kernel
theorem dM_init_80 : decode cM_init 80 = .ok (.sipush 200, 3) := by decide +kernel
theorem dM_init_83 : decode cM_init 83 = .ok (.newarray .long, 2) := by decide +kernel
theorem dM_init_85 : decode cM_init 85 = .ok (.putfield 38, 3) := by decide +kernel
theorem dM_init_88 : decode cM_init 88 = .ok (.aload_n 0, 1) := by decide +kernel
theorem dM_init_89 : decode cM_init 89 = .ok (.sipush 976, 3) := by decide +kernel
theorem dM_init_92 : decode cM_init 92 = .ok (.newarray .int, 2) := by decide +kernel
theorem dM_init_94 : decode cM_init 94 = .ok (.putfield 42, 3) := by decide +kernel
theorem dM_init_97 : decode cM_init 97 = .ok (.aload_n 0, 1) := by decide +kernel
theorem dM_init_98 : decode cM_init 98 = .ok (.sipush 976, 3) := by decide +kernel
theorem dM_init_101 : decode cM_init 101 = .ok (.newarray .int, 2) := by decide +kernel
theorem dM_init_103 : decode cM_init 103 = .ok (.putfield 45, 3) := by decide +kernel
theorem dM_init_106 : decode cM_init 106 = .ok (.aload_n 0, 1) := by decide +kernel
theorem dM_init_107 : decode cM_init 107 = .ok (.ldc 48, 2) := by decide +kernel
theorem dM_init_109 : decode cM_init 109 = .ok (.newarray .long, 2) := by decide +kernel
theorem dM_init_111 : decode cM_init 111 = .ok (.putfield 49, 3) := by decide +kernel
theorem dM_init_114 : decode cM_init 114 = .ok (.aload_n 0, 1) := by decide +kernel
theorem dM_init_115 : decode cM_init 115 = .ok (.sipush 200, 3) := by decide +kernel
theorem dM_init_118 : decode cM_init 118 = .ok (.putfield 52, 3) := by decide +kernel
theorem dM_init_121 : decode cM_init 121 = .ok (.aload_n 0, 1) := by decide +kernel
theorem dM_init_122 : decode cM_init 122 = .ok (.sipush 600, 3) := by decide +kernel
theorem dM_init_125 : decode cM_init 125 = .ok (.newarray .int, 2) := by decide +kernel
theorem dM_init_127 : decode cM_init 127 = .ok (.putfield 56, 3) := by decide +kernel
theorem dM_init_130 : decode cM_init 130 = .ok (.aload_n 0, 1) := by decide +kernel
theorem dM_init_131 : decode cM_init 131 = .ok (.sipush 600, 3) := by decide +kernel
theorem dM_init_134 : decode cM_init 134 = .ok (.newarray .int, 2) := by decide +kernel
theorem dM_init_136 : decode cM_init 136 = .ok (.putfield 59, 3) := by decide +kernel
theorem dM_init_139 : decode cM_init 139 = .ok (.aload_n 0, 1) := by decide +kernel
theorem dM_init_140 : decode cM_init 140 = .ok (.sipush 600, 3) := by decide +kernel
theorem dM_init_143 : decode cM_init 143 = .ok (.newarray .int, 2) := by decide +kernel
theorem dM_init_145 : decode cM_init 145 = .ok (.putfield 62, 3) := by decide +kernel
theorem dM_init_148 : decode cM_init 148 = .ok (.aload_n 0, 1) := by decide +kernel
theorem dM_init_149 : decode cM_init 149 = .ok (.sipush 9600, 3) := by decide +kernel
theorem dM_init_152 : decode cM_init 152 = .ok (.newarray .int, 2) := by decide +kernel
theorem dM_init_154 : decode cM_init 154 = .ok (.putfield 65, 3) := by decide +kernel
theorem dM_init_157 : decode cM_init 157 = .ok (.aload_n 0, 1) := by decide +kernel
theorem dM_init_158 : decode cM_init 158 = .ok (.bipush 16, 2) := by decide +kernel
theorem dM_init_160 : decode cM_init 160 = .ok (.newarray .int, 2) := by decide +kernel
theorem dM_init_162 : decode cM_init 162 = .ok (.putfield 68, 3) := by decide +kernel
theorem dM_init_165 : decode cM_init 165 = .ok (.aload_n 0, 1) := by decide +kernel
theorem dM_init_166 : decode cM_init 166 = .ok (.bipush 16, 2) := by decide +kernel
theorem dM_init_168 : decode cM_init 168 = .ok (.newarray .int, 2) := by decide +kernel
theorem dM_init_170 : decode cM_init 170 = .ok (.putfield 71, 3) := by decide +kernel
theorem dM_init_173 : decode cM_init 173 = .ok (.aload_n 0, 1) := by decide +kernel
theorem dM_init_174 : decode cM_init 174 = .ok (.iload_n 1, 1) := by decide +kernel
theorem dM_init_175 : decode cM_init 175 = .ok (.ifCond .ge 7, 3) := by decide +kernel
theorem dM_init_178 : decode cM_init 178 = .ok (.iconst 0, 1) := by decide +kernel
theorem dM_init_179 : decode cM_init 179 = .ok (.goto 15, 3) := by decide +kernel
theorem dM_init_182 : decode cM_init 182 = .ok (.iload_n 1, 1) := by decide +kernel
theorem dM_init_183 : decode cM_init 183 = .ok (.ldc 74, 2) := by decide +kernel
theorem dM_init_185 : decode cM_init 185 = .ok (.if_icmp .le 8, 3) := by decide +kernel
theorem dM_init_188 : decode cM_init 188 = .ok (.ldc 74, 2) := by decide +kernel
theorem dM_init_190 : decode cM_init 190 = .ok (.goto 4, 3) := by decide +kernel
theorem dM_init_193 : decode cM_init 193 = .ok (.iload_n 1, 1) := by decide +kernel
theorem dM_init_194 : decode cM_init 194 = .ok (.putfield 75, 3) := by decide +kernel
theorem dM_init_197 : decode cM_init 197 = .ok (.return_, 1) := by decide +kernel
theorem dM_thrown_0 : decode cM_thrown 0 = .ok (.aload_n 0, 1) := by decide +kernel
theorem dM_thrown_1 : decode cM_thrown 1 = .ok (.getfield 78, 3) := by decide +kernel
theorem dM_thrown_4 : decode cM_thrown 4 = .ok (.ireturn, 1) := by decide +kernel
theorem dM_program_0 : decode cM_program 0 = .ok (.aload_n 0, 1) := by decide +kernel
theorem dM_program_1 : decode cM_program 1 = .ok (.iconst 0, 1) := by decide +kernel
theorem dM_program_2 : decode cM_program 2 = .ok (.putfield 78, 3) := by decide +kernel
theorem dM_program_5 : decode cM_program 5 = .ok (.iload_n 1, 1) := by decide +kernel
theorem dM_program_6 : decode cM_program 6 = .ok (.ifCond .lt 28, 3) := by decide +kernel
theorem dM_program_9 : decode cM_program 9 = .ok (.iload_n 1, 1) := by decide +kernel
theorem dM_program_10 : decode cM_program 10 = .ok (.aload_n 0, 1) := by decide +kernel
theorem dM_program_11 : decode cM_program 11 = .ok (.getfield 81, 3) := by decide +kernel
theorem dM_program_14 : decode cM_program 14 = .ok (.if_icmp .gt 20, 3) := by decide +kernel
theorem dM_program_17 : decode cM_program 17 = .ok (.iload_n 2, 1) := by decide +kernel
theorem dM_program_18 : decode cM_program 18 = .ok (.invokestatic 87, 3) := by decide +kernel
theorem dM_program_21 : decode cM_program 21 = .ok (.ifCond .eq 13, 3) := by decide +kernel
theorem dM_program_24 : decode cM_program 24 = .ok (.iload_n 3, 1) := by decide +kernel
theorem dM_program_25 : decode cM_program 25 = .ok (.ifCond .lt 9, 3) := by decide +kernel
theorem dM_program_28 : decode cM_program 28 = .ok (.iload_n 3, 1) := by decide +kernel
theorem dM_program_29 : decode cM_program 29 = .ok (.bipush 15, 2) := by decide +kernel
theorem dM_program_31 : decode cM_program 31 = .ok (.if_icmp .le 6, 3) := by decide +kernel
theorem dM_program_34 : decode cM_program 34 = .ok (.bipush (-2), 2) := by decide +kernel
theorem dM_program_36 : decode cM_program 36 = .ok (.ireturn, 1) := by decide +kernel
theorem dM_program_37 : decode cM_program 37 = .ok (.aload_n 0, 1) := by decide +kernel
theorem dM_program_38 : decode cM_program 38 = .ok (.getfield 84, 3) := by decide +kernel
theorem dM_program_41 : decode cM_program 41 = .ok (.ifCond .le 6, 3) := by decide +kernel
theorem dM_program_44 : decode cM_program 44 = .ok (.bipush (-4), 2) := by decide +kernel
theorem dM_program_46 : decode cM_program 46 = .ok (.ireturn, 1) := by decide +kernel
theorem dM_program_47 : decode cM_program 47 = .ok (.aload_n 0, 1) := by decide +kernel
theorem dM_program_48 : decode cM_program 48 = .ok (.iload_n 1, 1) := by decide +kernel
theorem dM_program_49 : decode cM_program 49 = .ok (.iload_n 2, 1) := by decide +kernel
theorem dM_program_50 : decode cM_program 50 = .ok (.invokevirtual 91, 3) := by decide +kernel
theorem dM_program_53 : decode cM_program 53 = .ok (.ifCond .eq 6, 3) := by decide +kernel
theorem dM_program_56 : decode cM_program 56 = .ok (.bipush (-3), 2) := by decide +kernel
theorem dM_program_58 : decode cM_program 58 = .ok (.ireturn, 1) := by decide +kernel
theorem dM_program_59 : decode cM_program 59 = .ok (.aload_n 0, 1) := by decide +kernel
theorem dM_program_60 : decode cM_program 60 = .ok (.getfield 81, 3) := by decide +kernel
theorem dM_program_63 : decode cM_program 63 = .ok (.bipush 60, 2) := by decide +kernel
theorem dM_program_65 : decode cM_program 65 = .ok (.if_icmp .ne 5, 3) := by decide +kernel
theorem dM_program_68 : decode cM_program 68 = .ok (.iconst (-1), 1) := by decide +kernel
theorem dM_program_69 : decode cM_program 69 = .ok (.ireturn, 1) := by decide +kernel
theorem dM_program_70 : decode cM_program 70 = .ok (.aload_n 0, 1) := by decide +kernel
theorem dM_program_71 : decode cM_program 71 = .ok (.dup, 1) := by decide +kernel
theorem dM_program_72 : decode cM_program 72 = .ok (.getfield 81, 3) := by decide +kernel
theorem dM_program_75 : decode cM_program 75 = .ok (.iconst 1, 1) := by decide +kernel
theorem dM_program_76 : decode cM_program 76 = .ok (.iadd, 1) := by decide +kernel
theorem dM_program_77 : decode cM_program 77 = .ok (.putfield 81, 3) := by decide +kernel
theorem dM_program_80 : decode cM_program 80 = .ok (.aload_n 0, 1) := by decide +kernel
theorem dM_program_81 : decode cM_program 81 = .ok (.getfield 7, 3) := by decide +kernel
theorem dM_program_84 : decode cM_program 84 = .ok (.aload_n 0, 1) := by decide +kernel
theorem dM_program_85 : decode cM_program 85 = .ok (.getfield 81, 3) := by decide +kernel
theorem dM_program_88 : decode cM_program 88 = .ok (.iload_n 1, 1) := by decide +kernel
theorem dM_program_89 : decode cM_program 89 = .ok (.iastore, 1) := by decide +kernel
theorem dM_program_90 : decode cM_program 90 = .ok (.aload_n 0, 1) := by decide +kernel
theorem dM_program_91 : decode cM_program 91 = .ok (.getfield 13, 3) := by decide +kernel
theorem dM_program_94 : decode cM_program 94 = .ok (.aload_n 0, 1) := by decide +kernel
theorem dM_program_95 : decode cM_program 95 = .ok (.getfield 81, 3) := by decide +kernel
theorem dM_program_98 : decode cM_program 98 = .ok (.iload_n 2, 1) := by decide +kernel
theorem dM_program_99 : decode cM_program 99 = .ok (.iastore, 1) := by decide +kernel
theorem dM_program_100 : decode cM_program 100 = .ok (.aload_n 0, 1) := by decide +kernel
theorem dM_program_101 : decode cM_program 101 = .ok (.getfield 16, 3) := by decide +kernel
theorem dM_program_104 : decode cM_program 104 = .ok (.aload_n 0, 1) := by decide +kernel
theorem dM_program_105 : decode cM_program 105 = .ok (.getfield 81, 3) := by decide +kernel
theorem dM_program_108 : decode cM_program 108 = .ok (.iload_n 3, 1) := by decide +kernel
theorem dM_program_109 : decode cM_program 109 = .ok (.iastore, 1) := by decide +kernel
theorem dM_program_110 : decode cM_program 110 = .ok (.aload_n 0, 1) := by decide +kernel
theorem dM_program_111 : decode cM_program 111 = .ok (.getfield 81, 3) := by decide +kernel
theorem dM_program_114 : decode cM_program 114 = .ok (.ireturn, 1) := by decide +kernel
theorem dM_isName_0 : decode cM_isName 0 = .ok (.iload_n 0, 1) := by decide +kernel
theorem dM_isName_1 : decode cM_isName 1 = .ok (.ifCond .lt 13, 3) := by decide +kernel
theorem dM_isName_4 : decode cM_isName 4 = .ok (.iload_n 0, 1) := by decide +kernel
theorem dM_isName_5 : decode cM_isName 5 = .ok (.bipush 100, 2) := by decide +kernel
theorem dM_isName_7 : decode cM_isName 7 = .ok (.if_icmp .ge 7, 3) := by decide +kernel
theorem dM_isName_10 : decode cM_isName 10 = .ok (.iconst 1, 1) := by decide +kernel
theorem dM_isName_11 : decode cM_isName 11 = .ok (.goto 4, 3) := by decide +kernel
theorem dM_isName_14 : decode cM_isName 14 = .ok (.iconst 0, 1) := by decide +kernel
theorem dM_isName_15 : decode cM_isName 15 = .ok (.ireturn, 1) := by decide +kernel
theorem dM_directly_0 : decode cM_directly 0 = .ok (.iconst 0, 1) := by decide +kernel
theorem dM_directly_1 : decode cM_directly 1 = .ok (.istore_n 3, 1) := by decide +kernel
theorem dM_directly_2 : decode cM_directly 2 = .ok (.iconst 1, 1) := by decide +kernel
theorem dM_directly_3 : decode cM_directly 3 = .ok (.istore 4, 2) := by decide +kernel
theorem dM_directly_5 : decode cM_directly 5 = .ok (.iload 4, 2) := by decide +kernel
theorem dM_directly_7 : decode cM_directly 7 = .ok (.aload_n 0, 1) := by decide +kernel
theorem dM_directly_8 : decode cM_directly 8 = .ok (.getfield 81, 3) := by decide +kernel
theorem dM_directly_11 : decode cM_directly 11 = .ok (.if_icmp .gt 38, 3) := by decide +kernel
theorem dM_directly_14 : decode cM_directly 14 = .ok (.aload_n 0, 1) := by decide +kernel
theorem dM_directly_15 : decode cM_directly 15 = .ok (.getfield 7, 3) := by decide +kernel
theorem dM_directly_18 : decode cM_directly 18 = .ok (.iload 4, 2) := by decide +kernel
theorem dM_directly_20 : decode cM_directly 20 = .ok (.iaload, 1) := by decide +kernel
theorem dM_directly_21 : decode cM_directly 21 = .ok (.iload_n 1, 1) := by decide +kernel
theorem dM_directly_22 : decode cM_directly 22 = .ok (.if_icmp .ne 19, 3) := by decide +kernel
theorem dM_directly_25 : decode cM_directly 25 = .ok (.aload_n 0, 1) := by decide +kernel
theorem dM_directly_26 : decode cM_directly 26 = .ok (.getfield 13, 3) := by decide +kernel
theorem dM_directly_29 : decode cM_directly 29 = .ok (.iload 4, 2) := by decide +kernel
theorem dM_directly_31 : decode cM_directly 31 = .ok (.iaload, 1) := by decide +kernel
theorem dM_directly_32 : decode cM_directly 32 = .ok (.iload_n 2, 1) := by decide +kernel
theorem dM_directly_33 : decode cM_directly 33 = .ok (.if_icmp .ne 8, 3) := by decide +kernel
theorem dM_directly_36 : decode cM_directly 36 = .ok (.iload 4, 2) := by decide +kernel
theorem dM_directly_38 : decode cM_directly 38 = .ok (.goto 4, 3) := by decide +kernel
theorem dM_directly_41 : decode cM_directly 41 = .ok (.iload_n 3, 1) := by decide +kernel
theorem dM_directly_42 : decode cM_directly 42 = .ok (.istore_n 3, 1) := by decide +kernel
theorem dM_directly_43 : decode cM_directly 43 = .ok (.iinc 4 1, 3) := by decide +kernel
theorem dM_directly_46 : decode cM_directly 46 = .ok (.goto (-41), 3) := by decide +kernel
theorem dM_directly_49 : decode cM_directly 49 = .ok (.iload_n 3, 1) := by decide +kernel
theorem dM_directly_50 : decode cM_directly 50 = .ok (.ireturn, 1) := by decide +kernel
theorem dM_cell_0 : decode cM_cell 0 = .ok (.aload_n 0, 1) := by decide +kernel
theorem dM_cell_1 : decode cM_cell 1 = .ok (.iconst 0, 1) := by decide +kernel
theorem dM_cell_2 : decode cM_cell 2 = .ok (.putfield 78, 3) := by decide +kernel
theorem dM_cell_5 : decode cM_cell 5 = .ok (.aload_n 0, 1) := by decide +kernel
theorem dM_cell_6 : decode cM_cell 6 = .ok (.iload_n 1, 1) := by decide +kernel
theorem dM_cell_7 : decode cM_cell 7 = .ok (.invokevirtual 95, 3) := by decide +kernel
theorem dM_cell_10 : decode cM_cell 10 = .ok (.ifCond .ne 6, 3) := by decide +kernel
theorem dM_cell_13 : decode cM_cell 13 = .ok (.bipush (-2), 2) := by decide +kernel
theorem dM_cell_15 : decode cM_cell 15 = .ok (.ireturn, 1) := by decide +kernel
theorem dM_cell_16 : decode cM_cell 16 = .ok (.aload_n 0, 1) := by decide +kernel
theorem dM_cell_17 : decode cM_cell 17 = .ok (.getfield 84, 3) := by decide +kernel
theorem dM_cell_20 : decode cM_cell 20 = .ok (.ifCond .le 6, 3) := by decide +kernel
theorem dM_cell_23 : decode cM_cell 23 = .ok (.bipush (-4), 2) := by decide +kernel
theorem dM_cell_25 : decode cM_cell 25 = .ok (.ireturn, 1) := by decide +kernel
theorem dM_cell_26 : decode cM_cell 26 = .ok (.aload_n 0, 1) := by decide +kernel
theorem dM_cell_27 : decode cM_cell 27 = .ok (.getfield 98, 3) := by decide +kernel
theorem dM_cell_30 : decode cM_cell 30 = .ok (.sipush 200, 3) := by decide +kernel
theorem dM_cell_33 : decode cM_cell 33 = .ok (.if_icmp .ne 5, 3) := by decide +kernel
theorem dM_cell_36 : decode cM_cell 36 = .ok (.iconst (-1), 1) := by decide +kernel
theorem dM_cell_37 : decode cM_cell 37 = .ok (.ireturn, 1) := by decide +kernel
theorem dM_cell_38 : decode cM_cell 38 = .ok (.iconst 0, 1) := by decide +kernel
theorem dM_cell_39 : decode cM_cell 39 = .ok (.istore 4, 2) := by decide +kernel
theorem dM_cell_41 : decode cM_cell 41 = .ok (.iconst 0, 1) := by decide +kernel
theorem dM_cell_42 : decode cM_cell 42 = .ok (.istore 5, 2) := by decide +kernel
theorem dM_cell_44 : decode cM_cell 44 = .ok (.iload 5, 2) := by decide +kernel
theorem dM_cell_46 : decode cM_cell 46 = .ok (.aload_n 0, 1) := by decide +kernel
theorem dM_cell_47 : decode cM_cell 47 = .ok (.getfield 98, 3) := by decide +kernel
theorem dM_cell_50 : decode cM_cell 50 = .ok (.if_icmp .ge 30, 3) := by decide +kernel
theorem dM_cell_53 : decode cM_cell 53 = .ok (.iload 4, 2) := by decide +kernel
theorem dM_cell_55 : decode cM_cell 55 = .ok (.aload_n 0, 1) := by decide +kernel
theorem dM_cell_56 : decode cM_cell 56 = .ok (.getfield 29, 3) := by decide +kernel
theorem dM_cell_59 : decode cM_cell 59 = .ok (.iload 5, 2) := by decide +kernel
theorem dM_cell_61 : decode cM_cell 61 = .ok (.iaload, 1) := by decide +kernel
theorem dM_cell_62 : decode cM_cell 62 = .ok (.iload_n 1, 1) := by decide +kernel
theorem dM_cell_63 : decode cM_cell 63 = .ok (.if_icmp .ne 7, 3) := by decide +kernel
theorem dM_cell_66 : decode cM_cell 66 = .ok (.iconst 1, 1) := by decide +kernel
theorem dM_cell_67 : decode cM_cell 67 = .ok (.goto 4, 3) := by decide +kernel
theorem dM_cell_70 : decode cM_cell 70 = .ok (.iconst 0, 1) := by decide +kernel
theorem dM_cell_71 : decode cM_cell 71 = .ok (.iadd, 1) := by decide +kernel
theorem dM_cell_72 : decode cM_cell 72 = .ok (.istore 4, 2) := by decide +kernel
theorem dM_cell_74 : decode cM_cell 74 = .ok (.iinc 5 1, 3) := by decide +kernel
theorem dM_cell_77 : decode cM_cell 77 = .ok (.goto (-33), 3) := by decide +kernel
theorem dM_cell_80 : decode cM_cell 80 = .ok (.aload_n 0, 1) := by decide +kernel
theorem dM_cell_81 : decode cM_cell 81 = .ok (.getfield 29, 3) := by decide +kernel
theorem dM_cell_84 : decode cM_cell 84 = .ok (.aload_n 0, 1) := by decide +kernel
theorem dM_cell_85 : decode cM_cell 85 = .ok (.getfield 98, 3) := by decide +kernel
theorem dM_cell_88 : decode cM_cell 88 = .ok (.iload_n 1, 1) := by decide +kernel
theorem dM_cell_89 : decode cM_cell 89 = .ok (.iastore, 1) := by decide +kernel
theorem dM_cell_90 : decode cM_cell 90 = .ok (.aload_n 0, 1) := by decide +kernel
theorem dM_cell_91 : decode cM_cell 91 = .ok (.getfield 32, 3) := by decide +kernel
theorem dM_cell_94 : decode cM_cell 94 = .ok (.aload_n 0, 1) := by decide +kernel
theorem dM_cell_95 : decode cM_cell 95 = .ok (.getfield 98, 3) := by decide +kernel
theorem dM_cell_98 : decode cM_cell 98 = .ok (.iload 4, 2) := by decide +kernel
theorem dM_cell_100 : decode cM_cell 100 = .ok (.iastore, 1) := by decide +kernel
theorem dM_cell_101 : decode cM_cell 101 = .ok (.aload_n 0, 1) := by decide +kernel
theorem dM_cell_102 : decode cM_cell 102 = .ok (.getfield 38, 3) := by decide +kernel
theorem dM_cell_105 : decode cM_cell 105 = .ok (.aload_n 0, 1) := by decide +kernel
theorem dM_cell_106 : decode cM_cell 106 = .ok (.getfield 98, 3) := by decide +kernel
theorem dM_cell_109 : decode cM_cell 109 = .ok (.lload_n 2, 1) := by decide +kernel
theorem dM_cell_110 : decode cM_cell 110 = .ok (.lastore, 1) := by decide +kernel
theorem dM_cell_111 : decode cM_cell 111 = .ok (.aload_n 0, 1) := by decide +kernel
theorem dM_cell_112 : decode cM_cell 112 = .ok (.getfield 49, 3) := by decide +kernel
theorem dM_cell_115 : decode cM_cell 115 = .ok (.aload_n 0, 1) := by decide +kernel
theorem dM_cell_116 : decode cM_cell 116 = .ok (.getfield 98, 3) := by decide +kernel
theorem dM_cell_119 : decode cM_cell 119 = .ok (.lload_n 2, 1) := by decide +kernel
theorem dM_cell_120 : decode cM_cell 120 = .ok (.lastore, 1) := by decide +kernel
theorem dM_cell_121 : decode cM_cell 121 = .ok (.aload_n 0, 1) := by decide +kernel
theorem dM_cell_122 : decode cM_cell 122 = .ok (.dup, 1) := by decide +kernel
theorem dM_cell_123 : decode cM_cell 123 = .ok (.getfield 98, 3) := by decide +kernel
theorem dM_cell_126 : decode cM_cell 126 = .ok (.iconst 1, 1) := by decide +kernel
theorem dM_cell_127 : decode cM_cell 127 = .ok (.iadd, 1) := by decide +kernel
theorem dM_cell_128 : decode cM_cell 128 = .ok (.putfield 98, 3) := by decide +kernel
theorem dM_cell_131 : decode cM_cell 131 = .ok (.aload_n 0, 1) := by decide +kernel
theorem dM_cell_132 : decode cM_cell 132 = .ok (.getfield 98, 3) := by decide +kernel
theorem dM_cell_135 : decode cM_cell 135 = .ok (.iconst 1, 1) := by decide +kernel
theorem dM_cell_136 : decode cM_cell 136 = .ok (.isub, 1) := by decide +kernel
theorem dM_cell_137 : decode cM_cell 137 = .ok (.ireturn, 1) := by decide +kernel
theorem dM_isProgram_0 : decode cM_isProgram 0 = .ok (.iload_n 1, 1) := by decide +kernel
theorem dM_isProgram_1 : decode cM_isProgram 1 = .ok (.ifCond .le 15, 3) := by decide +kernel
theorem dM_isProgram_4 : decode cM_isProgram 4 = .ok (.iload_n 1, 1) := by decide +kernel
theorem dM_isProgram_5 : decode cM_isProgram 5 = .ok (.aload_n 0, 1) := by decide +kernel
theorem dM_isProgram_6 : decode cM_isProgram 6 = .ok (.getfield 81, 3) := by decide +kernel
theorem dM_isProgram_9 : decode cM_isProgram 9 = .ok (.if_icmp .gt 7, 3) := by decide +kernel
theorem dM_isProgram_12 : decode cM_isProgram 12 = .ok (.iconst 1, 1) := by decide +kernel
theorem dM_isProgram_13 : decode cM_isProgram 13 = .ok (.goto 4, 3) := by decide +kernel
theorem dM_isProgram_16 : decode cM_isProgram 16 = .ok (.iconst 0, 1) := by decide +kernel
theorem dM_isProgram_17 : decode cM_isProgram 17 = .ok (.ireturn, 1) := by decide +kernel
theorem dM_formal_0 : decode cM_formal 0 = .ok (.aload_n 0, 1) := by decide +kernel
theorem dM_formal_1 : decode cM_formal 1 = .ok (.iconst 0, 1) := by decide +kernel
theorem dM_formal_2 : decode cM_formal 2 = .ok (.putfield 78, 3) := by decide +kernel
theorem dM_formal_5 : decode cM_formal 5 = .ok (.aload_n 0, 1) := by decide +kernel
theorem dM_formal_6 : decode cM_formal 6 = .ok (.iload_n 1, 1) := by decide +kernel
theorem dM_formal_7 : decode cM_formal 7 = .ok (.invokevirtual 95, 3) := by decide +kernel
theorem dM_formal_10 : decode cM_formal 10 = .ok (.ifCond .eq 23, 3) := by decide +kernel
theorem dM_formal_13 : decode cM_formal 13 = .ok (.iload_n 2, 1) := by decide +kernel
theorem dM_formal_14 : decode cM_formal 14 = .ok (.ifCond .lt 19, 3) := by decide +kernel
theorem dM_formal_17 : decode cM_formal 17 = .ok (.iload_n 2, 1) := by decide +kernel
theorem dM_formal_18 : decode cM_formal 18 = .ok (.iconst 3, 1) := by decide +kernel
theorem dM_formal_19 : decode cM_formal 19 = .ok (.if_icmp .gt 14, 3) := by decide +kernel
theorem dM_formal_22 : decode cM_formal 22 = .ok (.iload_n 3, 1) := by decide +kernel
theorem dM_formal_23 : decode cM_formal 23 = .ok (.iconst 1, 1) := by decide +kernel
theorem dM_formal_24 : decode cM_formal 24 = .ok (.if_icmp .lt 9, 3) := by decide +kernel
theorem dM_formal_27 : decode cM_formal 27 = .ok (.iload_n 3, 1) := by decide +kernel
theorem dM_formal_28 : decode cM_formal 28 = .ok (.bipush 8, 2) := by decide +kernel
theorem dM_formal_30 : decode cM_formal 30 = .ok (.if_icmp .le 6, 3) := by decide +kernel
theorem dM_formal_33 : decode cM_formal 33 = .ok (.bipush (-2), 2) := by decide +kernel
theorem dM_formal_35 : decode cM_formal 35 = .ok (.ireturn, 1) := by decide +kernel
theorem dM_formal_36 : decode cM_formal 36 = .ok (.aload_n 0, 1) := by decide +kernel
theorem dM_formal_37 : decode cM_formal 37 = .ok (.getfield 84, 3) := by decide +kernel
theorem dM_formal_40 : decode cM_formal 40 = .ok (.ifCond .le 6, 3) := by decide +kernel
theorem dM_formal_43 : decode cM_formal 43 = .ok (.bipush (-4), 2) := by decide +kernel
theorem dM_formal_45 : decode cM_formal 45 = .ok (.ireturn, 1) := by decide +kernel
theorem dM_formal_46 : decode cM_formal 46 = .ok (.aload_n 0, 1) := by decide +kernel
theorem dM_formal_47 : decode cM_formal 47 = .ok (.getfield 19, 3) := by decide +kernel
theorem dM_formal_50 : decode cM_formal 50 = .ok (.iload_n 1, 1) := by decide +kernel
theorem dM_formal_51 : decode cM_formal 51 = .ok (.iaload, 1) := by decide +kernel
theorem dM_formal_52 : decode cM_formal 52 = .ok (.bipush 16, 2) := by decide +kernel
theorem dM_formal_54 : decode cM_formal 54 = .ok (.if_icmp .ne 5, 3) := by decide +kernel
theorem dM_formal_57 : decode cM_formal 57 = .ok (.iconst (-1), 1) := by decide +kernel
theorem dM_formal_58 : decode cM_formal 58 = .ok (.ireturn, 1) := by decide +kernel
theorem dM_formal_59 : decode cM_formal 59 = .ok (.bipush 16, 2) := by decide +kernel
theorem dM_formal_61 : decode cM_formal 61 = .ok (.iload_n 1, 1) := by decide +kernel
theorem dM_formal_62 : decode cM_formal 62 = .ok (.iconst 1, 1) := by decide +kernel
theorem dM_formal_63 : decode cM_formal 63 = .ok (.isub, 1) := by decide +kernel
theorem dM_formal_64 : decode cM_formal 64 = .ok (.imul, 1) := by decide +kernel
theorem dM_formal_65 : decode cM_formal 65 = .ok (.aload_n 0, 1) := by decide +kernel
theorem dM_formal_66 : decode cM_formal 66 = .ok (.getfield 19, 3) := by decide +kernel
theorem dM_formal_69 : decode cM_formal 69 = .ok (.iload_n 1, 1) := by decide +kernel
theorem dM_formal_70 : decode cM_formal 70 = .ok (.iaload, 1) := by decide +kernel
theorem dM_formal_71 : decode cM_formal 71 = .ok (.iadd, 1) := by decide +kernel
theorem dM_formal_72 : decode cM_formal 72 = .ok (.istore 4, 2) := by decide +kernel
theorem dM_formal_74 : decode cM_formal 74 = .ok (.aload_n 0, 1) := by decide +kernel
theorem dM_formal_75 : decode cM_formal 75 = .ok (.getfield 42, 3) := by decide +kernel
theorem dM_formal_78 : decode cM_formal 78 = .ok (.iload 4, 2) := by decide +kernel
theorem dM_formal_80 : decode cM_formal 80 = .ok (.iload_n 2, 1) := by decide +kernel
theorem dM_formal_81 : decode cM_formal 81 = .ok (.iastore, 1) := by decide +kernel
theorem dM_formal_82 : decode cM_formal 82 = .ok (.aload_n 0, 1) := by decide +kernel
theorem dM_formal_83 : decode cM_formal 83 = .ok (.getfield 45, 3) := by decide +kernel
theorem dM_formal_86 : decode cM_formal 86 = .ok (.iload 4, 2) := by decide +kernel
theorem dM_formal_88 : decode cM_formal 88 = .ok (.iload_n 3, 1) := by decide +kernel
theorem dM_formal_89 : decode cM_formal 89 = .ok (.iastore, 1) := by decide +kernel
theorem dM_formal_90 : decode cM_formal 90 = .ok (.aload_n 0, 1) := by decide +kernel
theorem dM_formal_91 : decode cM_formal 91 = .ok (.getfield 19, 3) := by decide +kernel
theorem dM_formal_94 : decode cM_formal 94 = .ok (.iload_n 1, 1) := by decide +kernel
theorem dM_formal_95 : decode cM_formal 95 = .ok (.dup2, 1) := by decide +kernel
theorem dM_formal_96 : decode cM_formal 96 = .ok (.iaload, 1) := by decide +kernel
theorem dM_formal_97 : decode cM_formal 97 = .ok (.iconst 1, 1) := by decide +kernel
theorem dM_formal_98 : decode cM_formal 98 = .ok (.iadd, 1) := by decide +kernel
theorem dM_formal_99 : decode cM_formal 99 = .ok (.iastore, 1) := by decide +kernel
theorem dM_formal_100 : decode cM_formal 100 = .ok (.aload_n 0, 1) := by decide +kernel
theorem dM_formal_101 : decode cM_formal 101 = .ok (.getfield 19, 3) := by decide +kernel
theorem dM_formal_104 : decode cM_formal 104 = .ok (.iload_n 1, 1) := by decide +kernel
theorem dM_formal_105 : decode cM_formal 105 = .ok (.iaload, 1) := by decide +kernel
theorem dM_formal_106 : decode cM_formal 106 = .ok (.iconst 1, 1) := by decide +kernel
theorem dM_formal_107 : decode cM_formal 107 = .ok (.isub, 1) := by decide +kernel
theorem dM_formal_108 : decode cM_formal 108 = .ok (.ireturn, 1) := by decide +kernel
theorem dM_shared_0 : decode cM_shared 0 = .ok (.aload_n 0, 1) := by decide +kernel
theorem dM_shared_1 : decode cM_shared 1 = .ok (.iconst 0, 1) := by decide +kernel
theorem dM_shared_2 : decode cM_shared 2 = .ok (.putfield 78, 3) := by decide +kernel
theorem dM_shared_5 : decode cM_shared 5 = .ok (.iload_n 1, 1) := by decide +kernel
theorem dM_shared_6 : decode cM_shared 6 = .ok (.invokestatic 87, 3) := by decide +kernel
theorem dM_shared_9 : decode cM_shared 9 = .ok (.ifCond .ne 6, 3) := by decide +kernel
theorem dM_shared_12 : decode cM_shared 12 = .ok (.bipush (-2), 2) := by decide +kernel
theorem dM_shared_14 : decode cM_shared 14 = .ok (.ireturn, 1) := by decide +kernel
theorem dM_shared_15 : decode cM_shared 15 = .ok (.iconst 0, 1) := by decide +kernel
theorem dM_shared_16 : decode cM_shared 16 = .ok (.istore_n 2, 1) := by decide +kernel
theorem dM_shared_17 : decode cM_shared 17 = .ok (.iload_n 2, 1) := by decide +kernel
theorem dM_shared_18 : decode cM_shared 18 = .ok (.aload_n 0, 1) := by decide +kernel
theorem dM_shared_19 : decode cM_shared 19 = .ok (.getfield 98, 3) := by decide +kernel
theorem dM_shared_22 : decode cM_shared 22 = .ok (.if_icmp .ge 30, 3) := by decide +kernel
theorem dM_shared_25 : decode cM_shared 25 = .ok (.aload_n 0, 1) := by decide +kernel
theorem dM_shared_26 : decode cM_shared 26 = .ok (.getfield 29, 3) := by decide +kernel
theorem dM_shared_29 : decode cM_shared 29 = .ok (.iload_n 2, 1) := by decide +kernel
theorem dM_shared_30 : decode cM_shared 30 = .ok (.iaload, 1) := by decide +kernel
theorem dM_shared_31 : decode cM_shared 31 = .ok (.ifCond .ne 15, 3) := by decide +kernel
theorem dM_shared_34 : decode cM_shared 34 = .ok (.aload_n 0, 1) := by decide +kernel
theorem dM_shared_35 : decode cM_shared 35 = .ok (.getfield 35, 3) := by decide +kernel
theorem dM_shared_38 : decode cM_shared 38 = .ok (.iload_n 2, 1) := by decide +kernel
theorem dM_shared_39 : decode cM_shared 39 = .ok (.iaload, 1) := by decide +kernel
theorem dM_shared_40 : decode cM_shared 40 = .ok (.iload_n 1, 1) := by decide +kernel
theorem dM_shared_41 : decode cM_shared 41 = .ok (.if_icmp .ne 5, 3) := by decide +kernel
theorem dM_shared_44 : decode cM_shared 44 = .ok (.iload_n 2, 1) := by decide +kernel
theorem dM_shared_45 : decode cM_shared 45 = .ok (.ireturn, 1) := by decide +kernel
theorem dM_shared_46 : decode cM_shared 46 = .ok (.iinc 2 1, 3) := by decide +kernel
theorem dM_shared_49 : decode cM_shared 49 = .ok (.goto (-32), 3) := by decide +kernel
theorem dM_shared_52 : decode cM_shared 52 = .ok (.aload_n 0, 1) := by decide +kernel
theorem dM_shared_53 : decode cM_shared 53 = .ok (.getfield 98, 3) := by decide +kernel
theorem dM_shared_56 : decode cM_shared 56 = .ok (.sipush 200, 3) := by decide +kernel
theorem dM_shared_59 : decode cM_shared 59 = .ok (.if_icmp .ne 5, 3) := by decide +kernel
theorem dM_shared_62 : decode cM_shared 62 = .ok (.iconst (-1), 1) := by decide +kernel
theorem dM_shared_63 : decode cM_shared 63 = .ok (.ireturn, 1) := by decide +kernel
theorem dM_shared_64 : decode cM_shared 64 = .ok (.aload_n 0, 1) := by decide +kernel
theorem dM_shared_65 : decode cM_shared 65 = .ok (.getfield 29, 3) := by decide +kernel
theorem dM_shared_68 : decode cM_shared 68 = .ok (.aload_n 0, 1) := by decide +kernel
theorem dM_shared_69 : decode cM_shared 69 = .ok (.getfield 98, 3) := by decide +kernel
theorem dM_shared_72 : decode cM_shared 72 = .ok (.iconst 0, 1) := by decide +kernel
theorem dM_shared_73 : decode cM_shared 73 = .ok (.iastore, 1) := by decide +kernel
theorem dM_shared_74 : decode cM_shared 74 = .ok (.aload_n 0, 1) := by decide +kernel
theorem dM_shared_75 : decode cM_shared 75 = .ok (.getfield 35, 3) := by decide +kernel
theorem dM_shared_78 : decode cM_shared 78 = .ok (.aload_n 0, 1) := by decide +kernel
theorem dM_shared_79 : decode cM_shared 79 = .ok (.getfield 98, 3) := by decide +kernel
theorem dM_shared_82 : decode cM_shared 82 = .ok (.iload_n 1, 1) := by decide +kernel
theorem dM_shared_83 : decode cM_shared 83 = .ok (.iastore, 1) := by decide +kernel
theorem dM_shared_84 : decode cM_shared 84 = .ok (.aload_n 0, 1) := by decide +kernel
theorem dM_shared_85 : decode cM_shared 85 = .ok (.getfield 49, 3) := by decide +kernel
theorem dM_shared_88 : decode cM_shared 88 = .ok (.aload_n 0, 1) := by decide +kernel
theorem dM_shared_89 : decode cM_shared 89 = .ok (.getfield 98, 3) := by decide +kernel
theorem dM_shared_92 : decode cM_shared 92 = .ok (.lconst 0, 1) := by decide +kernel
theorem dM_shared_93 : decode cM_shared 93 = .ok (.lastore, 1) := by decide +kernel
theorem dM_shared_94 : decode cM_shared 94 = .ok (.aload_n 0, 1) := by decide +kernel
theorem dM_shared_95 : decode cM_shared 95 = .ok (.dup, 1) := by decide +kernel
theorem dM_shared_96 : decode cM_shared 96 = .ok (.getfield 98, 3) := by decide +kernel
theorem dM_shared_99 : decode cM_shared 99 = .ok (.iconst 1, 1) := by decide +kernel
theorem dM_shared_100 : decode cM_shared 100 = .ok (.iadd, 1) := by decide +kernel
theorem dM_shared_101 : decode cM_shared 101 = .ok (.putfield 98, 3) := by decide +kernel
theorem dM_shared_104 : decode cM_shared 104 = .ok (.aload_n 0, 1) := by decide +kernel
theorem dM_shared_105 : decode cM_shared 105 = .ok (.getfield 98, 3) := by decide +kernel
theorem dM_shared_108 : decode cM_shared 108 = .ok (.iconst 1, 1) := by decide +kernel
theorem dM_shared_109 : decode cM_shared 109 = .ok (.isub, 1) := by decide +kernel
theorem dM_shared_110 : decode cM_shared 110 = .ok (.ireturn, 1) := by decide +kernel
theorem dM_set_0 : decode cM_set 0 = .ok (.aload_n 0, 1) := by decide +kernel
theorem dM_set_1 : decode cM_set 1 = .ok (.iconst 0, 1) := by decide +kernel
theorem dM_set_2 : decode cM_set 2 = .ok (.putfield 78, 3) := by decide +kernel
theorem dM_set_5 : decode cM_set 5 = .ok (.aload_n 0, 1) := by decide +kernel
theorem dM_set_6 : decode cM_set 6 = .ok (.iload_n 1, 1) := by decide +kernel
theorem dM_set_7 : decode cM_set 7 = .ok (.invokevirtual 114, 3) := by decide +kernel
theorem dM_set_10 : decode cM_set 10 = .ok (.istore 4, 2) := by decide +kernel
theorem dM_set_12 : decode cM_set 12 = .ok (.iload 4, 2) := by decide +kernel
theorem dM_set_14 : decode cM_set 14 = .ok (.iconst (-1), 1) := by decide +kernel
theorem dM_set_15 : decode cM_set 15 = .ok (.if_icmp .ne 6, 3) := by decide +kernel
theorem dM_set_18 : decode cM_set 18 = .ok (.bipush (-2), 2) := by decide +kernel
theorem dM_set_20 : decode cM_set 20 = .ok (.ireturn, 1) := by decide +kernel
theorem dM_set_21 : decode cM_set 21 = .ok (.aload_n 0, 1) := by decide +kernel
theorem dM_set_22 : decode cM_set 22 = .ok (.iload 4, 2) := by decide +kernel
theorem dM_set_24 : decode cM_set 24 = .ok (.aload_n 0, 1) := by decide +kernel
theorem dM_set_25 : decode cM_set 25 = .ok (.iload_n 1, 1) := by decide +kernel
theorem dM_set_26 : decode cM_set 26 = .ok (.invokevirtual 118, 3) := by decide +kernel
theorem dM_set_29 : decode cM_set 29 = .ok (.lload_n 2, 1) := by decide +kernel
theorem dM_set_30 : decode cM_set 30 = .ok (.invokevirtual 121, 3) := by decide +kernel
theorem dM_set_33 : decode cM_set 33 = .ok (.iconst 1, 1) := by decide +kernel
theorem dM_set_34 : decode cM_set 34 = .ok (.ireturn, 1) := by decide +kernel
theorem dM_place_0 : decode cM_place 0 = .ok (.aload_n 0, 1) := by decide +kernel
theorem dM_place_1 : decode cM_place 1 = .ok (.invokevirtual 108, 3) := by decide +kernel
theorem dM_place_4 : decode cM_place 4 = .ok (.istore_n 2, 1) := by decide +kernel
theorem dM_place_5 : decode cM_place 5 = .ok (.iload_n 1, 1) := by decide +kernel
theorem dM_place_6 : decode cM_place 6 = .ok (.ifCond .ge 48, 3) := by decide +kernel
theorem dM_place_9 : decode cM_place 9 = .ok (.ldc2_w 112, 3) := by decide +kernel
theorem dM_place_12 : decode cM_place 12 = .ok (.iload_n 1, 1) := by decide +kernel
theorem dM_place_13 : decode cM_place 13 = .ok (.i2l, 1) := by decide +kernel
theorem dM_place_14 : decode cM_place 14 = .ok (.lsub, 1) := by decide +kernel
theorem dM_place_15 : decode cM_place 15 = .ok (.lstore_n 3, 1) := by decide +kernel
theorem dM_place_16 : decode cM_place 16 = .ok (.iload_n 2, 1) := by decide +kernel
theorem dM_place_17 : decode cM_place 17 = .ok (.ifCond .eq 15, 3) := by decide +kernel
theorem dM_place_20 : decode cM_place 20 = .ok (.lload_n 3, 1) := by decide +kernel
theorem dM_place_21 : decode cM_place 21 = .ok (.aload_n 0, 1) := by decide +kernel
theorem dM_place_22 : decode cM_place 22 = .ok (.getfield 19, 3) := by decide +kernel
theorem dM_place_25 : decode cM_place 25 = .ok (.iload_n 2, 1) := by decide +kernel
theorem dM_place_26 : decode cM_place 26 = .ok (.iaload, 1) := by decide +kernel
theorem dM_place_27 : decode cM_place 27 = .ok (.i2l, 1) := by decide +kernel
theorem dM_place_28 : decode cM_place 28 = .ok (.lcmp, 1) := by decide +kernel
theorem dM_place_29 : decode cM_place 29 = .ok (.ifCond .lt 7, 3) := by decide +kernel
theorem dM_place_32 : decode cM_place 32 = .ok (.iconst (-1), 1) := by decide +kernel
theorem dM_place_33 : decode cM_place 33 = .ok (.goto 20, 3) := by decide +kernel
theorem dM_place_36 : decode cM_place 36 = .ok (.aload_n 0, 1) := by decide +kernel
theorem dM_place_37 : decode cM_place 37 = .ok (.getfield 65, 3) := by decide +kernel
theorem dM_place_40 : decode cM_place 40 = .ok (.bipush 16, 2) := by decide +kernel
theorem dM_place_42 : decode cM_place 42 = .ok (.aload_n 0, 1) := by decide +kernel
theorem dM_place_43 : decode cM_place 43 = .ok (.getfield 84, 3) := by decide +kernel
theorem dM_place_46 : decode cM_place 46 = .ok (.iconst 1, 1) := by decide +kernel
theorem dM_place_47 : decode cM_place 47 = .ok (.isub, 1) := by decide +kernel
theorem dM_place_48 : decode cM_place 48 = .ok (.imul, 1) := by decide +kernel
theorem dM_place_49 : decode cM_place 49 = .ok (.lload_n 3, 1) := by decide +kernel
theorem dM_place_50 : decode cM_place 50 = .ok (.l2i, 1) := by decide +kernel
theorem dM_place_51 : decode cM_place 51 = .ok (.iadd, 1) := by decide +kernel
theorem dM_place_52 : decode cM_place 52 = .ok (.iaload, 1) := by decide +kernel
theorem dM_place_53 : decode cM_place 53 = .ok (.ireturn, 1) := by decide +kernel
theorem dM_place_54 : decode cM_place 54 = .ok (.iload_n 1, 1) := by decide +kernel
theorem dM_place_55 : decode cM_place 55 = .ok (.aload_n 0, 1) := by decide +kernel
theorem dM_place_56 : decode cM_place 56 = .ok (.getfield 98, 3) := by decide +kernel
theorem dM_place_59 : decode cM_place 59 = .ok (.if_icmp .lt 5, 3) := by decide +kernel
theorem dM_place_62 : decode cM_place 62 = .ok (.iconst (-1), 1) := by decide +kernel
theorem dM_place_63 : decode cM_place 63 = .ok (.ireturn, 1) := by decide +kernel
theorem dM_place_64 : decode cM_place 64 = .ok (.aload_n 0, 1) := by decide +kernel
theorem dM_place_65 : decode cM_place 65 = .ok (.getfield 29, 3) := by decide +kernel
theorem dM_place_68 : decode cM_place 68 = .ok (.iload_n 1, 1) := by decide +kernel
theorem dM_place_69 : decode cM_place 69 = .ok (.iaload, 1) := by decide +kernel
theorem dM_place_70 : decode cM_place 70 = .ok (.istore_n 3, 1) := by decide +kernel
theorem dM_place_71 : decode cM_place 71 = .ok (.iload_n 3, 1) := by decide +kernel
theorem dM_place_72 : decode cM_place 72 = .ok (.ifCond .ne 5, 3) := by decide +kernel
theorem dM_place_75 : decode cM_place 75 = .ok (.iload_n 1, 1) := by decide +kernel
theorem dM_place_76 : decode cM_place 76 = .ok (.ireturn, 1) := by decide +kernel
theorem dM_place_77 : decode cM_place 77 = .ok (.iload_n 2, 1) := by decide +kernel
theorem dM_place_78 : decode cM_place 78 = .ok (.ifCond .eq 31, 3) := by decide +kernel
theorem dM_place_81 : decode cM_place 81 = .ok (.iload_n 3, 1) := by decide +kernel
theorem dM_place_82 : decode cM_place 82 = .ok (.iload_n 2, 1) := by decide +kernel
theorem dM_place_83 : decode cM_place 83 = .ok (.if_icmp .eq 22, 3) := by decide +kernel
theorem dM_place_86 : decode cM_place 86 = .ok (.aload_n 0, 1) := by decide +kernel
theorem dM_place_87 : decode cM_place 87 = .ok (.iload_n 3, 1) := by decide +kernel
theorem dM_place_88 : decode cM_place 88 = .ok (.bipush 8, 2) := by decide +kernel
theorem dM_place_90 : decode cM_place 90 = .ok (.invokevirtual 101, 3) := by decide +kernel
theorem dM_place_93 : decode cM_place 93 = .ok (.ifCond .eq 16, 3) := by decide +kernel
theorem dM_place_96 : decode cM_place 96 = .ok (.aload_n 0, 1) := by decide +kernel
theorem dM_place_97 : decode cM_place 97 = .ok (.iload_n 2, 1) := by decide +kernel
theorem dM_place_98 : decode cM_place 98 = .ok (.iload_n 3, 1) := by decide +kernel
theorem dM_place_99 : decode cM_place 99 = .ok (.invokevirtual 105, 3) := by decide +kernel
theorem dM_place_102 : decode cM_place 102 = .ok (.ifCond .eq 7, 3) := by decide +kernel
theorem dM_place_105 : decode cM_place 105 = .ok (.iconst 1, 1) := by decide +kernel
theorem dM_place_106 : decode cM_place 106 = .ok (.goto 4, 3) := by decide +kernel
theorem dM_place_109 : decode cM_place 109 = .ok (.iconst 0, 1) := by decide +kernel
theorem dM_place_110 : decode cM_place 110 = .ok (.istore 4, 2) := by decide +kernel
theorem dM_place_112 : decode cM_place 112 = .ok (.iload 4, 2) := by decide +kernel
theorem dM_place_114 : decode cM_place 114 = .ok (.ifCond .ne 5, 3) := by decide +kernel
theorem dM_place_117 : decode cM_place 117 = .ok (.iconst (-1), 1) := by decide +kernel
theorem dM_place_118 : decode cM_place 118 = .ok (.ireturn, 1) := by decide +kernel
theorem dM_place_119 : decode cM_place 119 = .ok (.aload_n 0, 1) := by decide +kernel
theorem dM_place_120 : decode cM_place 120 = .ok (.iload_n 3, 1) := by decide +kernel
theorem dM_place_121 : decode cM_place 121 = .ok (.iconst 4, 1) := by decide +kernel
theorem dM_place_122 : decode cM_place 122 = .ok (.invokevirtual 101, 3) := by decide +kernel
theorem dM_place_125 : decode cM_place 125 = .ok (.ifCond .ne 5, 3) := by decide +kernel
theorem dM_place_128 : decode cM_place 128 = .ok (.iload_n 1, 1) := by decide +kernel
theorem dM_place_129 : decode cM_place 129 = .ok (.ireturn, 1) := by decide +kernel
theorem dM_place_130 : decode cM_place 130 = .ok (.iconst (-1), 1) := by decide +kernel
theorem dM_place_131 : decode cM_place 131 = .ok (.istore 5, 2) := by decide +kernel
theorem dM_place_133 : decode cM_place 133 = .ok (.iconst 0, 1) := by decide +kernel
theorem dM_place_134 : decode cM_place 134 = .ok (.istore 6, 2) := by decide +kernel
theorem dM_place_136 : decode cM_place 136 = .ok (.iload 6, 2) := by decide +kernel
theorem dM_place_138 : decode cM_place 138 = .ok (.aload_n 0, 1) := by decide +kernel
theorem dM_place_139 : decode cM_place 139 = .ok (.getfield 84, 3) := by decide +kernel
theorem dM_place_142 : decode cM_place 142 = .ok (.if_icmp .ge 34, 3) := by decide +kernel
theorem dM_place_145 : decode cM_place 145 = .ok (.aload_n 0, 1) := by decide +kernel
theorem dM_place_146 : decode cM_place 146 = .ok (.getfield 56, 3) := by decide +kernel
theorem dM_place_149 : decode cM_place 149 = .ok (.iload 6, 2) := by decide +kernel
theorem dM_place_151 : decode cM_place 151 = .ok (.iaload, 1) := by decide +kernel
theorem dM_place_152 : decode cM_place 152 = .ok (.iload_n 3, 1) := by decide +kernel
theorem dM_place_153 : decode cM_place 153 = .ok (.if_icmp .ne 13, 3) := by decide +kernel
theorem dM_place_156 : decode cM_place 156 = .ok (.aload_n 0, 1) := by decide +kernel
theorem dM_place_157 : decode cM_place 157 = .ok (.getfield 59, 3) := by decide +kernel
theorem dM_place_160 : decode cM_place 160 = .ok (.iload 6, 2) := by decide +kernel
theorem dM_place_162 : decode cM_place 162 = .ok (.iaload, 1) := by decide +kernel
theorem dM_place_163 : decode cM_place 163 = .ok (.goto 5, 3) := by decide +kernel
theorem dM_place_166 : decode cM_place 166 = .ok (.iload 5, 2) := by decide +kernel
theorem dM_place_168 : decode cM_place 168 = .ok (.istore 5, 2) := by decide +kernel
theorem dM_place_170 : decode cM_place 170 = .ok (.iinc 6 1, 3) := by decide +kernel
theorem dM_place_173 : decode cM_place 173 = .ok (.goto (-37), 3) := by decide +kernel
theorem dM_place_176 : decode cM_place 176 = .ok (.iload 5, 2) := by decide +kernel
theorem dM_place_178 : decode cM_place 178 = .ok (.iconst (-1), 1) := by decide +kernel
theorem dM_place_179 : decode cM_place 179 = .ok (.if_icmp .ne 7, 3) := by decide +kernel
theorem dM_place_182 : decode cM_place 182 = .ok (.iload_n 1, 1) := by decide +kernel
theorem dM_place_183 : decode cM_place 183 = .ok (.goto 12, 3) := by decide +kernel
theorem dM_place_186 : decode cM_place 186 = .ok (.iload 5, 2) := by decide +kernel
theorem dM_place_188 : decode cM_place 188 = .ok (.aload_n 0, 1) := by decide +kernel
theorem dM_place_189 : decode cM_place 189 = .ok (.getfield 32, 3) := by decide +kernel
theorem dM_place_192 : decode cM_place 192 = .ok (.iload_n 1, 1) := by decide +kernel
theorem dM_place_193 : decode cM_place 193 = .ok (.iaload, 1) := by decide +kernel
theorem dM_place_194 : decode cM_place 194 = .ok (.iadd, 1) := by decide +kernel
theorem dM_place_195 : decode cM_place 195 = .ok (.ireturn, 1) := by decide +kernel
theorem dM_running_0 : decode cM_running 0 = .ok (.aload_n 0, 1) := by decide +kernel
theorem dM_running_1 : decode cM_running 1 = .ok (.getfield 84, 3) := by decide +kernel
theorem dM_running_4 : decode cM_running 4 = .ok (.ifCond .ne 7, 3) := by decide +kernel
theorem dM_running_7 : decode cM_running 7 = .ok (.iconst 0, 1) := by decide +kernel
theorem dM_running_8 : decode cM_running 8 = .ok (.goto 14, 3) := by decide +kernel
theorem dM_running_11 : decode cM_running 11 = .ok (.aload_n 0, 1) := by decide +kernel
theorem dM_running_12 : decode cM_running 12 = .ok (.getfield 56, 3) := by decide +kernel
theorem dM_running_15 : decode cM_running 15 = .ok (.aload_n 0, 1) := by decide +kernel
theorem dM_running_16 : decode cM_running 16 = .ok (.getfield 84, 3) := by decide +kernel
theorem dM_running_19 : decode cM_running 19 = .ok (.iconst 1, 1) := by decide +kernel
theorem dM_running_20 : decode cM_running 20 = .ok (.isub, 1) := by decide +kernel
theorem dM_running_21 : decode cM_running 21 = .ok (.iaload, 1) := by decide +kernel
theorem dM_running_22 : decode cM_running 22 = .ok (.ireturn, 1) := by decide +kernel
theorem dM_is_0 : decode cM_is 0 = .ok (.aload_n 0, 1) := by decide +kernel
theorem dM_is_1 : decode cM_is 1 = .ok (.getfield 16, 3) := by decide +kernel
theorem dM_is_4 : decode cM_is 4 = .ok (.iload_n 1, 1) := by decide +kernel
theorem dM_is_5 : decode cM_is 5 = .ok (.iaload, 1) := by decide +kernel
theorem dM_is_6 : decode cM_is 6 = .ok (.iload_n 2, 1) := by decide +kernel
theorem dM_is_7 : decode cM_is 7 = .ok (.iand, 1) := by decide +kernel
theorem dM_is_8 : decode cM_is 8 = .ok (.ifCond .eq 7, 3) := by decide +kernel
theorem dM_is_11 : decode cM_is 11 = .ok (.iconst 1, 1) := by decide +kernel
theorem dM_is_12 : decode cM_is 12 = .ok (.goto 4, 3) := by decide +kernel
theorem dM_is_15 : decode cM_is 15 = .ok (.iconst 0, 1) := by decide +kernel
theorem dM_is_16 : decode cM_is 16 = .ok (.ireturn, 1) := by decide +kernel
theorem dM_liesIn_0 : decode cM_liesIn 0 = .ok (.iload_n 1, 1) := by decide +kernel
theorem dM_liesIn_1 : decode cM_liesIn 1 = .ok (.istore_n 3, 1) := by decide +kernel
theorem dM_liesIn_2 : decode cM_liesIn 2 = .ok (.iload_n 3, 1) := by decide +kernel
theorem dM_liesIn_3 : decode cM_liesIn 3 = .ok (.ifCond .eq 18, 3) := by decide +kernel
theorem dM_liesIn_6 : decode cM_liesIn 6 = .ok (.iload_n 3, 1) := by decide +kernel
theorem dM_liesIn_7 : decode cM_liesIn 7 = .ok (.iload_n 2, 1) := by decide +kernel
theorem dM_liesIn_8 : decode cM_liesIn 8 = .ok (.if_icmp .eq 13, 3) := by decide +kernel
theorem dM_liesIn_11 : decode cM_liesIn 11 = .ok (.aload_n 0, 1) := by decide +kernel
theorem dM_liesIn_12 : decode cM_liesIn 12 = .ok (.getfield 7, 3) := by decide +kernel
theorem dM_liesIn_15 : decode cM_liesIn 15 = .ok (.iload_n 3, 1) := by decide +kernel
theorem dM_liesIn_16 : decode cM_liesIn 16 = .ok (.iaload, 1) := by decide +kernel
theorem dM_liesIn_17 : decode cM_liesIn 17 = .ok (.istore_n 3, 1) := by decide +kernel
theorem dM_liesIn_18 : decode cM_liesIn 18 = .ok (.goto (-16), 3) := by decide +kernel
theorem dM_liesIn_21 : decode cM_liesIn 21 = .ok (.iload_n 3, 1) := by decide +kernel
theorem dM_liesIn_22 : decode cM_liesIn 22 = .ok (.iload_n 2, 1) := by decide +kernel
theorem dM_liesIn_23 : decode cM_liesIn 23 = .ok (.if_icmp .ne 11, 3) := by decide +kernel
theorem dM_liesIn_26 : decode cM_liesIn 26 = .ok (.iload_n 2, 1) := by decide +kernel
theorem dM_liesIn_27 : decode cM_liesIn 27 = .ok (.ifCond .eq 7, 3) := by decide +kernel
theorem dM_liesIn_30 : decode cM_liesIn 30 = .ok (.iconst 1, 1) := by decide +kernel
theorem dM_liesIn_31 : decode cM_liesIn 31 = .ok (.goto 4, 3) := by decide +kernel
theorem dM_liesIn_34 : decode cM_liesIn 34 = .ok (.iconst 0, 1) := by decide +kernel
theorem dM_liesIn_35 : decode cM_liesIn 35 = .ok (.ireturn, 1) := by decide +kernel
theorem dM_bytesOf_0 : decode cM_bytesOf 0 = .ok (.iload_n 1, 1) := by decide +kernel
theorem dM_bytesOf_1 : decode cM_bytesOf 1 = .ok (.ifCond .lt 8, 3) := by decide +kernel
theorem dM_bytesOf_4 : decode cM_bytesOf 4 = .ok (.bipush 8, 2) := by decide +kernel
theorem dM_bytesOf_6 : decode cM_bytesOf 6 = .ok (.goto 21, 3) := by decide +kernel
theorem dM_bytesOf_9 : decode cM_bytesOf 9 = .ok (.aload_n 0, 1) := by decide +kernel
theorem dM_bytesOf_10 : decode cM_bytesOf 10 = .ok (.getfield 45, 3) := by decide +kernel
theorem dM_bytesOf_13 : decode cM_bytesOf 13 = .ok (.bipush 16, 2) := by decide +kernel
theorem dM_bytesOf_15 : decode cM_bytesOf 15 = .ok (.aload_n 0, 1) := by decide +kernel
theorem dM_bytesOf_16 : decode cM_bytesOf 16 = .ok (.invokevirtual 108, 3) := by decide +kernel
theorem dM_bytesOf_19 : decode cM_bytesOf 19 = .ok (.iconst 1, 1) := by decide +kernel
theorem dM_bytesOf_20 : decode cM_bytesOf 20 = .ok (.isub, 1) := by decide +kernel
theorem dM_bytesOf_21 : decode cM_bytesOf 21 = .ok (.imul, 1) := by decide +kernel
theorem dM_bytesOf_22 : decode cM_bytesOf 22 = .ok (.iconst (-1), 1) := by decide +kernel
theorem dM_bytesOf_23 : decode cM_bytesOf 23 = .ok (.iload_n 1, 1) := by decide +kernel
theorem dM_bytesOf_24 : decode cM_bytesOf 24 = .ok (.isub, 1) := by decide +kernel
theorem dM_bytesOf_25 : decode cM_bytesOf 25 = .ok (.iadd, 1) := by decide +kernel
theorem dM_bytesOf_26 : decode cM_bytesOf 26 = .ok (.iaload, 1) := by decide +kernel
theorem dM_bytesOf_27 : decode cM_bytesOf 27 = .ok (.ireturn, 1) := by decide +kernel
theorem dM_store_0 : decode cM_store 0 = .ok (.iload_n 2, 1) := by decide +kernel
theorem dM_store_1 : decode cM_store 1 = .ok (.bipush 8, 2) := by decide +kernel
theorem dM_store_3 : decode cM_store 3 = .ok (.if_icmp .ne 9, 3) := by decide +kernel
theorem dM_store_6 : decode cM_store 6 = .ok (.ldc2_w 112, 3) := by decide +kernel
theorem dM_store_9 : decode cM_store 9 = .ok (.goto 11, 3) := by decide +kernel
theorem dM_store_12 : decode cM_store 12 = .ok (.lconst 1, 1) := by decide +kernel
theorem dM_store_13 : decode cM_store 13 = .ok (.bipush 8, 2) := by decide +kernel
theorem dM_store_15 : decode cM_store 15 = .ok (.iload_n 2, 1) := by decide +kernel
theorem dM_store_16 : decode cM_store 16 = .ok (.imul, 1) := by decide +kernel
theorem dM_store_17 : decode cM_store 17 = .ok (.lshl, 1) := by decide +kernel
theorem dM_store_18 : decode cM_store 18 = .ok (.lconst 1, 1) := by decide +kernel
theorem dM_store_19 : decode cM_store 19 = .ok (.lsub, 1) := by decide +kernel
theorem dM_store_20 : decode cM_store 20 = .ok (.lstore 5, 2) := by decide +kernel
theorem dM_store_22 : decode cM_store 22 = .ok (.aload_n 0, 1) := by decide +kernel
theorem dM_store_23 : decode cM_store 23 = .ok (.getfield 49, 3) := by decide +kernel
theorem dM_store_26 : decode cM_store 26 = .ok (.iload_n 1, 1) := by decide +kernel
theorem dM_store_27 : decode cM_store 27 = .ok (.aload_n 0, 1) := by decide +kernel
theorem dM_store_28 : decode cM_store 28 = .ok (.getfield 49, 3) := by decide +kernel
theorem dM_store_31 : decode cM_store 31 = .ok (.iload_n 1, 1) := by decide +kernel
theorem dM_store_32 : decode cM_store 32 = .ok (.laload, 1) := by decide +kernel
theorem dM_store_33 : decode cM_store 33 = .ok (.lload 5, 2) := by decide +kernel
theorem dM_store_35 : decode cM_store 35 = .ok (.ldc2_w 112, 3) := by decide +kernel
theorem dM_store_38 : decode cM_store 38 = .ok (.lxor, 1) := by decide +kernel
theorem dM_store_39 : decode cM_store 39 = .ok (.land, 1) := by decide +kernel
theorem dM_store_40 : decode cM_store 40 = .ok (.lload_n 3, 1) := by decide +kernel
theorem dM_store_41 : decode cM_store 41 = .ok (.lload 5, 2) := by decide +kernel
theorem dM_store_43 : decode cM_store 43 = .ok (.land, 1) := by decide +kernel
theorem dM_store_44 : decode cM_store 44 = .ok (.lor, 1) := by decide +kernel
theorem dM_store_45 : decode cM_store 45 = .ok (.lastore, 1) := by decide +kernel
theorem dM_store_46 : decode cM_store 46 = .ok (.return_, 1) := by decide +kernel
theorem dM_get_0 : decode cM_get 0 = .ok (.aload_n 0, 1) := by decide +kernel
theorem dM_get_1 : decode cM_get 1 = .ok (.iload_n 1, 1) := by decide +kernel
theorem dM_get_2 : decode cM_get 2 = .ok (.invokevirtual 114, 3) := by decide +kernel
theorem dM_get_5 : decode cM_get 5 = .ok (.istore_n 2, 1) := by decide +kernel
theorem dM_get_6 : decode cM_get 6 = .ok (.aload_n 0, 1) := by decide +kernel
theorem dM_get_7 : decode cM_get 7 = .ok (.iload_n 2, 1) := by decide +kernel
theorem dM_get_8 : decode cM_get 8 = .ok (.iconst (-1), 1) := by decide +kernel
theorem dM_get_9 : decode cM_get 9 = .ok (.if_icmp .ne 7, 3) := by decide +kernel
theorem dM_get_12 : decode cM_get 12 = .ok (.iconst 1, 1) := by decide +kernel
theorem dM_get_13 : decode cM_get 13 = .ok (.goto 4, 3) := by decide +kernel
theorem dM_get_16 : decode cM_get 16 = .ok (.iconst 0, 1) := by decide +kernel
theorem dM_get_17 : decode cM_get 17 = .ok (.putfield 78, 3) := by decide +kernel
theorem dM_get_20 : decode cM_get 20 = .ok (.iload_n 2, 1) := by decide +kernel
theorem dM_get_21 : decode cM_get 21 = .ok (.iconst (-1), 1) := by decide +kernel
theorem dM_get_22 : decode cM_get 22 = .ok (.if_icmp .ne 7, 3) := by decide +kernel
theorem dM_get_25 : decode cM_get 25 = .ok (.lconst 0, 1) := by decide +kernel
theorem dM_get_26 : decode cM_get 26 = .ok (.goto 17, 3) := by decide +kernel
theorem dM_get_29 : decode cM_get 29 = .ok (.aload_n 0, 1) := by decide +kernel
theorem dM_get_30 : decode cM_get 30 = .ok (.getfield 49, 3) := by decide +kernel
theorem dM_get_33 : decode cM_get 33 = .ok (.iload_n 2, 1) := by decide +kernel
theorem dM_get_34 : decode cM_get 34 = .ok (.laload, 1) := by decide +kernel
theorem dM_get_35 : decode cM_get 35 = .ok (.aload_n 0, 1) := by decide +kernel
theorem dM_get_36 : decode cM_get 36 = .ok (.iload_n 1, 1) := by decide +kernel
theorem dM_get_37 : decode cM_get 37 = .ok (.invokevirtual 118, 3) := by decide +kernel
theorem dM_get_40 : decode cM_get 40 = .ok (.invokestatic 125, 3) := by decide +kernel
theorem dM_get_43 : decode cM_get 43 = .ok (.lreturn, 1) := by decide +kernel
theorem dM_signed_0 : decode cM_signed 0 = .ok (.lload_n 0, 1) := by decide +kernel
theorem dM_signed_1 : decode cM_signed 1 = .ok (.bipush 64, 2) := by decide +kernel
theorem dM_signed_3 : decode cM_signed 3 = .ok (.bipush 8, 2) := by decide +kernel
theorem dM_signed_5 : decode cM_signed 5 = .ok (.iload_n 2, 1) := by decide +kernel
theorem dM_signed_6 : decode cM_signed 6 = .ok (.imul, 1) := by decide +kernel
theorem dM_signed_7 : decode cM_signed 7 = .ok (.isub, 1) := by decide +kernel
theorem dM_signed_8 : decode cM_signed 8 = .ok (.lshl, 1) := by decide +kernel
theorem dM_signed_9 : decode cM_signed 9 = .ok (.bipush 64, 2) := by decide +kernel
theorem dM_signed_11 : decode cM_signed 11 = .ok (.bipush 8, 2) := by decide +kernel
theorem dM_signed_13 : decode cM_signed 13 = .ok (.iload_n 2, 1) := by decide +kernel
theorem dM_signed_14 : decode cM_signed 14 = .ok (.imul, 1) := by decide +kernel
theorem dM_signed_15 : decode cM_signed 15 = .ok (.isub, 1) := by decide +kernel
theorem dM_signed_16 : decode cM_signed 16 = .ok (.lshr, 1) := by decide +kernel
theorem dM_signed_17 : decode cM_signed 17 = .ok (.lreturn, 1) := by decide +kernel
theorem dM_call_0 : decode cM_call 0 = .ok (.aload_n 0, 1) := by decide +kernel
theorem dM_call_1 : decode cM_call 1 = .ok (.iconst 0, 1) := by decide +kernel
theorem dM_call_2 : decode cM_call 2 = .ok (.putfield 78, 3) := by decide +kernel
theorem dM_call_5 : decode cM_call 5 = .ok (.aload_n 0, 1) := by decide +kernel
theorem dM_call_6 : decode cM_call 6 = .ok (.invokevirtual 138, 3) := by decide +kernel
theorem dM_call_9 : decode cM_call 9 = .ok (.aload_n 0, 1) := by decide +kernel
theorem dM_call_10 : decode cM_call 10 = .ok (.iload_n 1, 1) := by decide +kernel
theorem dM_call_11 : decode cM_call 11 = .ok (.iload_n 2, 1) := by decide +kernel
theorem dM_call_12 : decode cM_call 12 = .ok (.invokevirtual 141, 3) := by decide +kernel
theorem dM_call_15 : decode cM_call 15 = .ok (.ifCond .ne 6, 3) := by decide +kernel
theorem dM_call_18 : decode cM_call 18 = .ok (.bipush (-2), 2) := by decide +kernel
theorem dM_call_20 : decode cM_call 20 = .ok (.ireturn, 1) := by decide +kernel
theorem dM_call_21 : decode cM_call 21 = .ok (.aload_n 0, 1) := by decide +kernel
theorem dM_call_22 : decode cM_call 22 = .ok (.iload_n 1, 1) := by decide +kernel
theorem dM_call_23 : decode cM_call 23 = .ok (.iload_n 2, 1) := by decide +kernel
theorem dM_call_24 : decode cM_call 24 = .ok (.invokevirtual 144, 3) := by decide +kernel
theorem dM_call_27 : decode cM_call 27 = .ok (.istore_n 3, 1) := by decide +kernel
theorem dM_call_28 : decode cM_call 28 = .ok (.iload_n 3, 1) := by decide +kernel
theorem dM_call_29 : decode cM_call 29 = .ok (.ifCond .ne 6, 3) := by decide +kernel
theorem dM_call_32 : decode cM_call 32 = .ok (.bipush (-3), 2) := by decide +kernel
theorem dM_call_34 : decode cM_call 34 = .ok (.ireturn, 1) := by decide +kernel
theorem dM_call_35 : decode cM_call 35 = .ok (.aload_n 0, 1) := by decide +kernel
theorem dM_call_36 : decode cM_call 36 = .ok (.getfield 22, 3) := by decide +kernel
theorem dM_call_39 : decode cM_call 39 = .ok (.iload_n 3, 1) := by decide +kernel
theorem dM_call_40 : decode cM_call 40 = .ok (.iaload, 1) := by decide +kernel
theorem dM_call_41 : decode cM_call 41 = .ok (.ifCond .le 15, 3) := by decide +kernel
theorem dM_call_44 : decode cM_call 44 = .ok (.aload_n 0, 1) := by decide +kernel
theorem dM_call_45 : decode cM_call 45 = .ok (.iload_n 3, 1) := by decide +kernel
theorem dM_call_46 : decode cM_call 46 = .ok (.iconst 4, 1) := by decide +kernel
theorem dM_call_47 : decode cM_call 47 = .ok (.invokevirtual 101, 3) := by decide +kernel
theorem dM_call_50 : decode cM_call 50 = .ok (.ifCond .ne 6, 3) := by decide +kernel
theorem dM_call_53 : decode cM_call 53 = .ok (.bipush (-5), 2) := by decide +kernel
theorem dM_call_55 : decode cM_call 55 = .ok (.ireturn, 1) := by decide +kernel
theorem dM_call_56 : decode cM_call 56 = .ok (.aload_n 0, 1) := by decide +kernel
theorem dM_call_57 : decode cM_call 57 = .ok (.getfield 84, 3) := by decide +kernel
theorem dM_call_60 : decode cM_call 60 = .ok (.aload_n 0, 1) := by decide +kernel
theorem dM_call_61 : decode cM_call 61 = .ok (.getfield 75, 3) := by decide +kernel
theorem dM_call_64 : decode cM_call 64 = .ok (.if_icmp .lt 6, 3) := by decide +kernel
theorem dM_call_67 : decode cM_call 67 = .ok (.bipush (-6), 2) := by decide +kernel
theorem dM_call_69 : decode cM_call 69 = .ok (.ireturn, 1) := by decide +kernel
theorem dM_call_70 : decode cM_call 70 = .ok (.aload_n 0, 1) := by decide +kernel
theorem dM_call_71 : decode cM_call 71 = .ok (.iload_n 3, 1) := by decide +kernel
theorem dM_call_72 : decode cM_call 72 = .ok (.putfield 129, 3) := by decide +kernel
theorem dM_call_75 : decode cM_call 75 = .ok (.aload_n 0, 1) := by decide +kernel
theorem dM_call_76 : decode cM_call 76 = .ok (.aload_n 0, 1) := by decide +kernel
theorem dM_call_77 : decode cM_call 77 = .ok (.getfield 52, 3) := by decide +kernel
theorem dM_call_80 : decode cM_call 80 = .ok (.putfield 132, 3) := by decide +kernel
theorem dM_call_83 : decode cM_call 83 = .ok (.iload_n 3, 1) := by decide +kernel
theorem dM_call_84 : decode cM_call 84 = .ok (.ireturn, 1) := by decide +kernel
theorem dM_unprepare_0 : decode cM_unprepare 0 = .ok (.aload_n 0, 1) := by decide +kernel
theorem dM_unprepare_1 : decode cM_unprepare 1 = .ok (.getfield 129, 3) := by decide +kernel
theorem dM_unprepare_4 : decode cM_unprepare 4 = .ok (.ifCond .eq 11, 3) := by decide +kernel
theorem dM_unprepare_7 : decode cM_unprepare 7 = .ok (.aload_n 0, 1) := by decide +kernel
theorem dM_unprepare_8 : decode cM_unprepare 8 = .ok (.aload_n 0, 1) := by decide +kernel
theorem dM_unprepare_9 : decode cM_unprepare 9 = .ok (.getfield 132, 3) := by decide +kernel
theorem dM_unprepare_12 : decode cM_unprepare 12 = .ok (.putfield 52, 3) := by decide +kernel
theorem dM_unprepare_15 : decode cM_unprepare 15 = .ok (.aload_n 0, 1) := by decide +kernel
theorem dM_unprepare_16 : decode cM_unprepare 16 = .ok (.iconst 0, 1) := by decide +kernel
theorem dM_unprepare_17 : decode cM_unprepare 17 = .ok (.putfield 129, 3) := by decide +kernel
theorem dM_unprepare_20 : decode cM_unprepare 20 = .ok (.aload_n 0, 1) := by decide +kernel
theorem dM_unprepare_21 : decode cM_unprepare 21 = .ok (.iconst 0, 1) := by decide +kernel
theorem dM_unprepare_22 : decode cM_unprepare 22 = .ok (.putfield 135, 3) := by decide +kernel
theorem dM_unprepare_25 : decode cM_unprepare 25 = .ok (.return_, 1) := by decide +kernel
theorem dM_isFrom_0 : decode cM_isFrom 0 = .ok (.iload_n 1, 1) := by decide +kernel
theorem dM_isFrom_1 : decode cM_isFrom 1 = .ok (.aload_n 0, 1) := by decide +kernel
theorem dM_isFrom_2 : decode cM_isFrom 2 = .ok (.invokevirtual 108, 3) := by decide +kernel
theorem dM_isFrom_5 : decode cM_isFrom 5 = .ok (.if_icmp .ne 14, 3) := by decide +kernel
theorem dM_isFrom_8 : decode cM_isFrom 8 = .ok (.iload_n 2, 1) := by decide +kernel
theorem dM_isFrom_9 : decode cM_isFrom 9 = .ok (.invokestatic 87, 3) := by decide +kernel
theorem dM_isFrom_12 : decode cM_isFrom 12 = .ok (.ifCond .eq 7, 3) := by decide +kernel
theorem dM_isFrom_15 : decode cM_isFrom 15 = .ok (.iconst 1, 1) := by decide +kernel
theorem dM_isFrom_16 : decode cM_isFrom 16 = .ok (.goto 4, 3) := by decide +kernel
theorem dM_isFrom_19 : decode cM_isFrom 19 = .ok (.iconst 0, 1) := by decide +kernel
theorem dM_isFrom_20 : decode cM_isFrom 20 = .ok (.ireturn, 1) := by decide +kernel
theorem dM_find_0 : decode cM_find 0 = .ok (.iload_n 1, 1) := by decide +kernel
theorem dM_find_1 : decode cM_find 1 = .ok (.ifCond .ne 10, 3) := by decide +kernel
theorem dM_find_4 : decode cM_find 4 = .ok (.aload_n 0, 1) := by decide +kernel
theorem dM_find_5 : decode cM_find 5 = .ok (.iconst 0, 1) := by decide +kernel
theorem dM_find_6 : decode cM_find 6 = .ok (.iload_n 2, 1) := by decide +kernel
theorem dM_find_7 : decode cM_find 7 = .ok (.invokevirtual 91, 3) := by decide +kernel
theorem dM_find_10 : decode cM_find 10 = .ok (.ireturn, 1) := by decide +kernel
theorem dM_find_11 : decode cM_find 11 = .ok (.aload_n 0, 1) := by decide +kernel
theorem dM_find_12 : decode cM_find 12 = .ok (.iload_n 1, 1) := by decide +kernel
theorem dM_find_13 : decode cM_find 13 = .ok (.iload_n 2, 1) := by decide +kernel
theorem dM_find_14 : decode cM_find 14 = .ok (.invokevirtual 91, 3) := by decide +kernel
theorem dM_find_17 : decode cM_find 17 = .ok (.istore_n 3, 1) := by decide +kernel
theorem dM_find_18 : decode cM_find 18 = .ok (.iload_n 3, 1) := by decide +kernel
theorem dM_find_19 : decode cM_find 19 = .ok (.ifCond .eq 5, 3) := by decide +kernel
theorem dM_find_22 : decode cM_find 22 = .ok (.iload_n 3, 1) := by decide +kernel
theorem dM_find_23 : decode cM_find 23 = .ok (.ireturn, 1) := by decide +kernel
theorem dM_find_24 : decode cM_find 24 = .ok (.iload_n 1, 1) := by decide +kernel
theorem dM_find_25 : decode cM_find 25 = .ok (.istore 4, 2) := by decide +kernel
theorem dM_find_27 : decode cM_find 27 = .ok (.iload 4, 2) := by decide +kernel
theorem dM_find_29 : decode cM_find 29 = .ok (.ifCond .eq 39, 3) := by decide +kernel
theorem dM_find_32 : decode cM_find 32 = .ok (.aload_n 0, 1) := by decide +kernel
theorem dM_find_33 : decode cM_find 33 = .ok (.iload 4, 2) := by decide +kernel
theorem dM_find_35 : decode cM_find 35 = .ok (.iconst 4, 1) := by decide +kernel
theorem dM_find_36 : decode cM_find 36 = .ok (.invokevirtual 101, 3) := by decide +kernel
theorem dM_find_39 : decode cM_find 39 = .ok (.ifCond .eq 17, 3) := by decide +kernel
theorem dM_find_42 : decode cM_find 42 = .ok (.aload_n 0, 1) := by decide +kernel
theorem dM_find_43 : decode cM_find 43 = .ok (.getfield 13, 3) := by decide +kernel
theorem dM_find_46 : decode cM_find 46 = .ok (.iload 4, 2) := by decide +kernel
theorem dM_find_48 : decode cM_find 48 = .ok (.iaload, 1) := by decide +kernel
theorem dM_find_49 : decode cM_find 49 = .ok (.iload_n 2, 1) := by decide +kernel
theorem dM_find_50 : decode cM_find 50 = .ok (.if_icmp .ne 6, 3) := by decide +kernel
theorem dM_find_53 : decode cM_find 53 = .ok (.iload 4, 2) := by decide +kernel
theorem dM_find_55 : decode cM_find 55 = .ok (.ireturn, 1) := by decide +kernel
theorem dM_find_56 : decode cM_find 56 = .ok (.aload_n 0, 1) := by decide +kernel
theorem dM_find_57 : decode cM_find 57 = .ok (.getfield 7, 3) := by decide +kernel
theorem dM_find_60 : decode cM_find 60 = .ok (.iload 4, 2) := by decide +kernel
theorem dM_find_62 : decode cM_find 62 = .ok (.iaload, 1) := by decide +kernel
theorem dM_find_63 : decode cM_find 63 = .ok (.istore 4, 2) := by decide +kernel
theorem dM_find_65 : decode cM_find 65 = .ok (.goto (-38), 3) := by decide +kernel
theorem dM_find_68 : decode cM_find 68 = .ok (.aload_n 0, 1) := by decide +kernel
theorem dM_find_69 : decode cM_find 69 = .ok (.getfield 7, 3) := by decide +kernel
theorem dM_find_72 : decode cM_find 72 = .ok (.iload_n 1, 1) := by decide +kernel
theorem dM_find_73 : decode cM_find 73 = .ok (.iaload, 1) := by decide +kernel
theorem dM_find_74 : decode cM_find 74 = .ok (.istore 4, 2) := by decide +kernel
theorem dM_find_76 : decode cM_find 76 = .ok (.iload 4, 2) := by decide +kernel
theorem dM_find_78 : decode cM_find 78 = .ok (.ifCond .eq 52, 3) := by decide +kernel
theorem dM_find_81 : decode cM_find 81 = .ok (.aload_n 0, 1) := by decide +kernel
theorem dM_find_82 : decode cM_find 82 = .ok (.iload 4, 2) := by decide +kernel
theorem dM_find_84 : decode cM_find 84 = .ok (.iload_n 2, 1) := by decide +kernel
theorem dM_find_85 : decode cM_find 85 = .ok (.invokevirtual 91, 3) := by decide +kernel
theorem dM_find_88 : decode cM_find 88 = .ok (.istore 5, 2) := by decide +kernel
theorem dM_find_90 : decode cM_find 90 = .ok (.iload 5, 2) := by decide +kernel
theorem dM_find_92 : decode cM_find 92 = .ok (.ifCond .eq 26, 3) := by decide +kernel
theorem dM_find_95 : decode cM_find 95 = .ok (.aload_n 0, 1) := by decide +kernel
theorem dM_find_96 : decode cM_find 96 = .ok (.iload 5, 2) := by decide +kernel
theorem dM_find_98 : decode cM_find 98 = .ok (.iconst 2, 1) := by decide +kernel
theorem dM_find_99 : decode cM_find 99 = .ok (.invokevirtual 101, 3) := by decide +kernel
theorem dM_find_102 : decode cM_find 102 = .ok (.ifCond .eq 16, 3) := by decide +kernel
theorem dM_find_105 : decode cM_find 105 = .ok (.aload_n 0, 1) := by decide +kernel
theorem dM_find_106 : decode cM_find 106 = .ok (.iload_n 1, 1) := by decide +kernel
theorem dM_find_107 : decode cM_find 107 = .ok (.iload 5, 2) := by decide +kernel
theorem dM_find_109 : decode cM_find 109 = .ok (.invokevirtual 105, 3) := by decide +kernel
theorem dM_find_112 : decode cM_find 112 = .ok (.ifCond .ne 6, 3) := by decide +kernel
theorem dM_find_115 : decode cM_find 115 = .ok (.iload 5, 2) := by decide +kernel
theorem dM_find_117 : decode cM_find 117 = .ok (.ireturn, 1) := by decide +kernel
theorem dM_find_118 : decode cM_find 118 = .ok (.aload_n 0, 1) := by decide +kernel
theorem dM_find_119 : decode cM_find 119 = .ok (.getfield 7, 3) := by decide +kernel
theorem dM_find_122 : decode cM_find 122 = .ok (.iload 4, 2) := by decide +kernel
theorem dM_find_124 : decode cM_find 124 = .ok (.iaload, 1) := by decide +kernel
theorem dM_find_125 : decode cM_find 125 = .ok (.istore 4, 2) := by decide +kernel
theorem dM_find_127 : decode cM_find 127 = .ok (.goto (-51), 3) := by decide +kernel
theorem dM_find_130 : decode cM_find 130 = .ok (.aload_n 0, 1) := by decide +kernel
theorem dM_find_131 : decode cM_find 131 = .ok (.iconst 0, 1) := by decide +kernel
theorem dM_find_132 : decode cM_find 132 = .ok (.iload_n 2, 1) := by decide +kernel
theorem dM_find_133 : decode cM_find 133 = .ok (.invokevirtual 91, 3) := by decide +kernel
theorem dM_find_136 : decode cM_find 136 = .ok (.ireturn, 1) := by decide +kernel
theorem dM_actual_0 : decode cM_actual 0 = .ok (.aload_n 0, 1) := by decide +kernel
theorem dM_actual_1 : decode cM_actual 1 = .ok (.iconst 0, 1) := by decide +kernel
theorem dM_actual_2 : decode cM_actual 2 = .ok (.putfield 78, 3) := by decide +kernel
theorem dM_actual_5 : decode cM_actual 5 = .ok (.aload_n 0, 1) := by decide +kernel
theorem dM_actual_6 : decode cM_actual 6 = .ok (.getfield 129, 3) := by decide +kernel
theorem dM_actual_9 : decode cM_actual 9 = .ok (.ifCond .ne 6, 3) := by decide +kernel
theorem dM_actual_12 : decode cM_actual 12 = .ok (.bipush (-4), 2) := by decide +kernel
theorem dM_actual_14 : decode cM_actual 14 = .ok (.ireturn, 1) := by decide +kernel
theorem dM_actual_15 : decode cM_actual 15 = .ok (.iload_n 2, 1) := by decide +kernel
theorem dM_actual_16 : decode cM_actual 16 = .ok (.iconst 2, 1) := by decide +kernel
theorem dM_actual_17 : decode cM_actual 17 = .ok (.if_icmp .ne 7, 3) := by decide +kernel
theorem dM_actual_20 : decode cM_actual 20 = .ok (.iconst (-1), 1) := by decide +kernel
theorem dM_actual_21 : decode cM_actual 21 = .ok (.goto 8, 3) := by decide +kernel
theorem dM_actual_24 : decode cM_actual 24 = .ok (.aload_n 0, 1) := by decide +kernel
theorem dM_actual_25 : decode cM_actual 25 = .ok (.iload_n 1, 1) := by decide +kernel
theorem dM_actual_26 : decode cM_actual 26 = .ok (.invokevirtual 114, 3) := by decide +kernel
theorem dM_actual_29 : decode cM_actual 29 = .ok (.istore_n 3, 1) := by decide +kernel
theorem dM_actual_30 : decode cM_actual 30 = .ok (.iload_n 2, 1) := by decide +kernel
theorem dM_actual_31 : decode cM_actual 31 = .ok (.ifCond .lt 18, 3) := by decide +kernel
theorem dM_actual_34 : decode cM_actual 34 = .ok (.iload_n 2, 1) := by decide +kernel
theorem dM_actual_35 : decode cM_actual 35 = .ok (.iconst 2, 1) := by decide +kernel
theorem dM_actual_36 : decode cM_actual 36 = .ok (.if_icmp .gt 13, 3) := by decide +kernel
theorem dM_actual_39 : decode cM_actual 39 = .ok (.iload_n 2, 1) := by decide +kernel
theorem dM_actual_40 : decode cM_actual 40 = .ok (.iconst 2, 1) := by decide +kernel
theorem dM_actual_41 : decode cM_actual 41 = .ok (.if_icmp .eq 11, 3) := by decide +kernel
theorem dM_actual_44 : decode cM_actual 44 = .ok (.iload_n 3, 1) := by decide +kernel
theorem dM_actual_45 : decode cM_actual 45 = .ok (.iconst (-1), 1) := by decide +kernel
theorem dM_actual_46 : decode cM_actual 46 = .ok (.if_icmp .ne 6, 3) := by decide +kernel
theorem dM_actual_49 : decode cM_actual 49 = .ok (.bipush (-2), 2) := by decide +kernel
theorem dM_actual_51 : decode cM_actual 51 = .ok (.ireturn, 1) := by decide +kernel
theorem dM_actual_52 : decode cM_actual 52 = .ok (.aload_n 0, 1) := by decide +kernel
theorem dM_actual_53 : decode cM_actual 53 = .ok (.getfield 135, 3) := by decide +kernel
theorem dM_actual_56 : decode cM_actual 56 = .ok (.bipush 16, 2) := by decide +kernel
theorem dM_actual_58 : decode cM_actual 58 = .ok (.if_icmp .ne 5, 3) := by decide +kernel
theorem dM_actual_61 : decode cM_actual 61 = .ok (.iconst (-1), 1) := by decide +kernel
theorem dM_actual_62 : decode cM_actual 62 = .ok (.ireturn, 1) := by decide +kernel
theorem dM_actual_63 : decode cM_actual 63 = .ok (.aload_n 0, 1) := by decide +kernel
theorem dM_actual_64 : decode cM_actual 64 = .ok (.getfield 68, 3) := by decide +kernel
theorem dM_actual_67 : decode cM_actual 67 = .ok (.aload_n 0, 1) := by decide +kernel
theorem dM_actual_68 : decode cM_actual 68 = .ok (.getfield 135, 3) := by decide +kernel
theorem dM_actual_71 : decode cM_actual 71 = .ok (.iload_n 2, 1) := by decide +kernel
theorem dM_actual_72 : decode cM_actual 72 = .ok (.ifCond .ne 7, 3) := by decide +kernel
theorem dM_actual_75 : decode cM_actual 75 = .ok (.iload_n 3, 1) := by decide +kernel
theorem dM_actual_76 : decode cM_actual 76 = .ok (.goto 22, 3) := by decide +kernel
theorem dM_actual_79 : decode cM_actual 79 = .ok (.iload_n 2, 1) := by decide +kernel
theorem dM_actual_80 : decode cM_actual 80 = .ok (.iconst 1, 1) := by decide +kernel
theorem dM_actual_81 : decode cM_actual 81 = .ok (.if_icmp .ne 16, 3) := by decide +kernel
theorem dM_actual_84 : decode cM_actual 84 = .ok (.aload_n 0, 1) := by decide +kernel
theorem dM_actual_85 : decode cM_actual 85 = .ok (.aload_n 0, 1) := by decide +kernel
theorem dM_actual_86 : decode cM_actual 86 = .ok (.getfield 49, 3) := by decide +kernel
theorem dM_actual_89 : decode cM_actual 89 = .ok (.iload_n 3, 1) := by decide +kernel
theorem dM_actual_90 : decode cM_actual 90 = .ok (.laload, 1) := by decide +kernel
theorem dM_actual_91 : decode cM_actual 91 = .ok (.invokevirtual 147, 3) := by decide +kernel
theorem dM_actual_94 : decode cM_actual 94 = .ok (.goto 4, 3) := by decide +kernel
theorem dM_actual_97 : decode cM_actual 97 = .ok (.iconst (-1), 1) := by decide +kernel
theorem dM_actual_98 : decode cM_actual 98 = .ok (.iastore, 1) := by decide +kernel
theorem dM_actual_99 : decode cM_actual 99 = .ok (.aload_n 0, 1) := by decide +kernel
theorem dM_actual_100 : decode cM_actual 100 = .ok (.getfield 71, 3) := by decide +kernel
theorem dM_actual_103 : decode cM_actual 103 = .ok (.aload_n 0, 1) := by decide +kernel
theorem dM_actual_104 : decode cM_actual 104 = .ok (.getfield 135, 3) := by decide +kernel
theorem dM_actual_107 : decode cM_actual 107 = .ok (.iload_n 2, 1) := by decide +kernel
theorem dM_actual_108 : decode cM_actual 108 = .ok (.iconst 2, 1) := by decide +kernel
theorem dM_actual_109 : decode cM_actual 109 = .ok (.if_icmp .ne 7, 3) := by decide +kernel
theorem dM_actual_112 : decode cM_actual 112 = .ok (.iconst 0, 1) := by decide +kernel
theorem dM_actual_113 : decode cM_actual 113 = .ok (.goto 8, 3) := by decide +kernel
theorem dM_actual_116 : decode cM_actual 116 = .ok (.aload_n 0, 1) := by decide +kernel
theorem dM_actual_117 : decode cM_actual 117 = .ok (.iload_n 1, 1) := by decide +kernel
theorem dM_actual_118 : decode cM_actual 118 = .ok (.invokevirtual 118, 3) := by decide +kernel
theorem dM_actual_121 : decode cM_actual 121 = .ok (.iastore, 1) := by decide +kernel
theorem dM_actual_122 : decode cM_actual 122 = .ok (.aload_n 0, 1) := by decide +kernel
theorem dM_actual_123 : decode cM_actual 123 = .ok (.dup, 1) := by decide +kernel
theorem dM_actual_124 : decode cM_actual 124 = .ok (.getfield 135, 3) := by decide +kernel
theorem dM_actual_127 : decode cM_actual 127 = .ok (.iconst 1, 1) := by decide +kernel
theorem dM_actual_128 : decode cM_actual 128 = .ok (.iadd, 1) := by decide +kernel
theorem dM_actual_129 : decode cM_actual 129 = .ok (.putfield 135, 3) := by decide +kernel
theorem dM_actual_132 : decode cM_actual 132 = .ok (.aload_n 0, 1) := by decide +kernel
theorem dM_actual_133 : decode cM_actual 133 = .ok (.getfield 135, 3) := by decide +kernel
theorem dM_actual_136 : decode cM_actual 136 = .ok (.iconst 1, 1) := by decide +kernel
theorem dM_actual_137 : decode cM_actual 137 = .ok (.isub, 1) := by decide +kernel
theorem dM_actual_138 : decode cM_actual 138 = .ok (.ireturn, 1) := by decide +kernel
theorem dM_copy_0 : decode cM_copy 0 = .ok (.aload_n 0, 1) := by decide +kernel
theorem dM_copy_1 : decode cM_copy 1 = .ok (.getfield 49, 3) := by decide +kernel
theorem dM_copy_4 : decode cM_copy 4 = .ok (.aload_n 0, 1) := by decide +kernel
theorem dM_copy_5 : decode cM_copy 5 = .ok (.getfield 52, 3) := by decide +kernel
theorem dM_copy_8 : decode cM_copy 8 = .ok (.lload_n 1, 1) := by decide +kernel
theorem dM_copy_9 : decode cM_copy 9 = .ok (.lastore, 1) := by decide +kernel
theorem dM_copy_10 : decode cM_copy 10 = .ok (.aload_n 0, 1) := by decide +kernel
theorem dM_copy_11 : decode cM_copy 11 = .ok (.dup, 1) := by decide +kernel
theorem dM_copy_12 : decode cM_copy 12 = .ok (.getfield 52, 3) := by decide +kernel
theorem dM_copy_15 : decode cM_copy 15 = .ok (.iconst 1, 1) := by decide +kernel
theorem dM_copy_16 : decode cM_copy 16 = .ok (.iadd, 1) := by decide +kernel
theorem dM_copy_17 : decode cM_copy 17 = .ok (.putfield 52, 3) := by decide +kernel
theorem dM_copy_20 : decode cM_copy 20 = .ok (.aload_n 0, 1) := by decide +kernel
theorem dM_copy_21 : decode cM_copy 21 = .ok (.getfield 52, 3) := by decide +kernel
theorem dM_copy_24 : decode cM_copy 24 = .ok (.iconst 1, 1) := by decide +kernel
theorem dM_copy_25 : decode cM_copy 25 = .ok (.isub, 1) := by decide +kernel
theorem dM_copy_26 : decode cM_copy 26 = .ok (.ireturn, 1) := by decide +kernel
theorem dM_enter_0 : decode cM_enter 0 = .ok (.aload_n 0, 1) := by decide +kernel
theorem dM_enter_1 : decode cM_enter 1 = .ok (.iconst 0, 1) := by decide +kernel
theorem dM_enter_2 : decode cM_enter 2 = .ok (.putfield 78, 3) := by decide +kernel
theorem dM_enter_5 : decode cM_enter 5 = .ok (.aload_n 0, 1) := by decide +kernel
theorem dM_enter_6 : decode cM_enter 6 = .ok (.invokevirtual 151, 3) := by decide +kernel
theorem dM_enter_9 : decode cM_enter 9 = .ok (.istore_n 1, 1) := by decide +kernel
theorem dM_enter_10 : decode cM_enter 10 = .ok (.iload_n 1, 1) := by decide +kernel
theorem dM_enter_11 : decode cM_enter 11 = .ok (.iconst 1, 1) := by decide +kernel
theorem dM_enter_12 : decode cM_enter 12 = .ok (.if_icmp .eq 9, 3) := by decide +kernel
theorem dM_enter_15 : decode cM_enter 15 = .ok (.aload_n 0, 1) := by decide +kernel
theorem dM_enter_16 : decode cM_enter 16 = .ok (.invokevirtual 138, 3) := by decide +kernel
theorem dM_enter_19 : decode cM_enter 19 = .ok (.iload_n 1, 1) := by decide +kernel
theorem dM_enter_20 : decode cM_enter 20 = .ok (.ireturn, 1) := by decide +kernel
theorem dM_enter_21 : decode cM_enter 21 = .ok (.aload_n 0, 1) := by decide +kernel
theorem dM_enter_22 : decode cM_enter 22 = .ok (.getfield 129, 3) := by decide +kernel
theorem dM_enter_25 : decode cM_enter 25 = .ok (.istore_n 2, 1) := by decide +kernel
theorem dM_enter_26 : decode cM_enter 26 = .ok (.aload_n 0, 1) := by decide +kernel
theorem dM_enter_27 : decode cM_enter 27 = .ok (.getfield 56, 3) := by decide +kernel
theorem dM_enter_30 : decode cM_enter 30 = .ok (.aload_n 0, 1) := by decide +kernel
theorem dM_enter_31 : decode cM_enter 31 = .ok (.getfield 84, 3) := by decide +kernel
theorem dM_enter_34 : decode cM_enter 34 = .ok (.iload_n 2, 1) := by decide +kernel
theorem dM_enter_35 : decode cM_enter 35 = .ok (.iastore, 1) := by decide +kernel
theorem dM_enter_36 : decode cM_enter 36 = .ok (.aload_n 0, 1) := by decide +kernel
theorem dM_enter_37 : decode cM_enter 37 = .ok (.getfield 62, 3) := by decide +kernel
theorem dM_enter_40 : decode cM_enter 40 = .ok (.aload_n 0, 1) := by decide +kernel
theorem dM_enter_41 : decode cM_enter 41 = .ok (.getfield 84, 3) := by decide +kernel
theorem dM_enter_44 : decode cM_enter 44 = .ok (.aload_n 0, 1) := by decide +kernel
theorem dM_enter_45 : decode cM_enter 45 = .ok (.getfield 132, 3) := by decide +kernel
theorem dM_enter_48 : decode cM_enter 48 = .ok (.iastore, 1) := by decide +kernel
theorem dM_enter_49 : decode cM_enter 49 = .ok (.iconst 0, 1) := by decide +kernel
theorem dM_enter_50 : decode cM_enter 50 = .ok (.istore_n 3, 1) := by decide +kernel
theorem dM_enter_51 : decode cM_enter 51 = .ok (.iload_n 3, 1) := by decide +kernel
theorem dM_enter_52 : decode cM_enter 52 = .ok (.aload_n 0, 1) := by decide +kernel
theorem dM_enter_53 : decode cM_enter 53 = .ok (.getfield 19, 3) := by decide +kernel
theorem dM_enter_56 : decode cM_enter 56 = .ok (.iload_n 2, 1) := by decide +kernel
theorem dM_enter_57 : decode cM_enter 57 = .ok (.iaload, 1) := by decide +kernel
theorem dM_enter_58 : decode cM_enter 58 = .ok (.if_icmp .ge 117, 3) := by decide +kernel
theorem dM_enter_61 : decode cM_enter 61 = .ok (.iload_n 3, 1) := by decide +kernel
theorem dM_enter_62 : decode cM_enter 62 = .ok (.aload_n 0, 1) := by decide +kernel
theorem dM_enter_63 : decode cM_enter 63 = .ok (.getfield 135, 3) := by decide +kernel
theorem dM_enter_66 : decode cM_enter 66 = .ok (.if_icmp .ge 17, 3) := by decide +kernel
theorem dM_enter_69 : decode cM_enter 69 = .ok (.aload_n 0, 1) := by decide +kernel
theorem dM_enter_70 : decode cM_enter 70 = .ok (.getfield 68, 3) := by decide +kernel
theorem dM_enter_73 : decode cM_enter 73 = .ok (.iload_n 3, 1) := by decide +kernel
theorem dM_enter_74 : decode cM_enter 74 = .ok (.iaload, 1) := by decide +kernel
theorem dM_enter_75 : decode cM_enter 75 = .ok (.iconst (-1), 1) := by decide +kernel
theorem dM_enter_76 : decode cM_enter 76 = .ok (.if_icmp .eq 7, 3) := by decide +kernel
theorem dM_enter_79 : decode cM_enter 79 = .ok (.iconst 1, 1) := by decide +kernel
theorem dM_enter_80 : decode cM_enter 80 = .ok (.goto 4, 3) := by decide +kernel
theorem dM_enter_83 : decode cM_enter 83 = .ok (.iconst 0, 1) := by decide +kernel
theorem dM_enter_84 : decode cM_enter 84 = .ok (.istore 4, 2) := by decide +kernel
theorem dM_enter_86 : decode cM_enter 86 = .ok (.iload 4, 2) := by decide +kernel
theorem dM_enter_88 : decode cM_enter 88 = .ok (.ifCond .eq 26, 3) := by decide +kernel
theorem dM_enter_91 : decode cM_enter 91 = .ok (.aload_n 0, 1) := by decide +kernel
theorem dM_enter_92 : decode cM_enter 92 = .ok (.getfield 42, 3) := by decide +kernel
theorem dM_enter_95 : decode cM_enter 95 = .ok (.bipush 16, 2) := by decide +kernel
theorem dM_enter_97 : decode cM_enter 97 = .ok (.iload_n 2, 1) := by decide +kernel
theorem dM_enter_98 : decode cM_enter 98 = .ok (.iconst 1, 1) := by decide +kernel
theorem dM_enter_99 : decode cM_enter 99 = .ok (.isub, 1) := by decide +kernel
theorem dM_enter_100 : decode cM_enter 100 = .ok (.imul, 1) := by decide +kernel
theorem dM_enter_101 : decode cM_enter 101 = .ok (.iload_n 3, 1) := by decide +kernel
theorem dM_enter_102 : decode cM_enter 102 = .ok (.iadd, 1) := by decide +kernel
theorem dM_enter_103 : decode cM_enter 103 = .ok (.iaload, 1) := by decide +kernel
theorem dM_enter_104 : decode cM_enter 104 = .ok (.iconst 2, 1) := by decide +kernel
theorem dM_enter_105 : decode cM_enter 105 = .ok (.irem, 1) := by decide +kernel
theorem dM_enter_106 : decode cM_enter 106 = .ok (.iconst 1, 1) := by decide +kernel
theorem dM_enter_107 : decode cM_enter 107 = .ok (.if_icmp .ne 7, 3) := by decide +kernel
theorem dM_enter_110 : decode cM_enter 110 = .ok (.iconst 1, 1) := by decide +kernel
theorem dM_enter_111 : decode cM_enter 111 = .ok (.goto 4, 3) := by decide +kernel
theorem dM_enter_114 : decode cM_enter 114 = .ok (.iconst 0, 1) := by decide +kernel
theorem dM_enter_115 : decode cM_enter 115 = .ok (.istore 5, 2) := by decide +kernel
theorem dM_enter_117 : decode cM_enter 117 = .ok (.aload_n 0, 1) := by decide +kernel
theorem dM_enter_118 : decode cM_enter 118 = .ok (.getfield 65, 3) := by decide +kernel
theorem dM_enter_121 : decode cM_enter 121 = .ok (.bipush 16, 2) := by decide +kernel
theorem dM_enter_123 : decode cM_enter 123 = .ok (.aload_n 0, 1) := by decide +kernel
theorem dM_enter_124 : decode cM_enter 124 = .ok (.getfield 84, 3) := by decide +kernel
theorem dM_enter_127 : decode cM_enter 127 = .ok (.imul, 1) := by decide +kernel
theorem dM_enter_128 : decode cM_enter 128 = .ok (.iload_n 3, 1) := by decide +kernel
theorem dM_enter_129 : decode cM_enter 129 = .ok (.iadd, 1) := by decide +kernel
theorem dM_enter_130 : decode cM_enter 130 = .ok (.iload 4, 2) := by decide +kernel
theorem dM_enter_132 : decode cM_enter 132 = .ok (.ifCond .ne 7, 3) := by decide +kernel
theorem dM_enter_135 : decode cM_enter 135 = .ok (.iconst (-1), 1) := by decide +kernel
theorem dM_enter_136 : decode cM_enter 136 = .ok (.goto 32, 3) := by decide +kernel
theorem dM_enter_139 : decode cM_enter 139 = .ok (.iload 5, 2) := by decide +kernel
theorem dM_enter_141 : decode cM_enter 141 = .ok (.ifCond .eq 21, 3) := by decide +kernel
theorem dM_enter_144 : decode cM_enter 144 = .ok (.aload_n 0, 1) := by decide +kernel
theorem dM_enter_145 : decode cM_enter 145 = .ok (.aload_n 0, 1) := by decide +kernel
theorem dM_enter_146 : decode cM_enter 146 = .ok (.getfield 49, 3) := by decide +kernel
theorem dM_enter_149 : decode cM_enter 149 = .ok (.aload_n 0, 1) := by decide +kernel
theorem dM_enter_150 : decode cM_enter 150 = .ok (.getfield 68, 3) := by decide +kernel
theorem dM_enter_153 : decode cM_enter 153 = .ok (.iload_n 3, 1) := by decide +kernel
theorem dM_enter_154 : decode cM_enter 154 = .ok (.iaload, 1) := by decide +kernel
theorem dM_enter_155 : decode cM_enter 155 = .ok (.laload, 1) := by decide +kernel
theorem dM_enter_156 : decode cM_enter 156 = .ok (.invokevirtual 147, 3) := by decide +kernel
theorem dM_enter_159 : decode cM_enter 159 = .ok (.goto 9, 3) := by decide +kernel
theorem dM_enter_162 : decode cM_enter 162 = .ok (.aload_n 0, 1) := by decide +kernel
theorem dM_enter_163 : decode cM_enter 163 = .ok (.getfield 68, 3) := by decide +kernel
theorem dM_enter_166 : decode cM_enter 166 = .ok (.iload_n 3, 1) := by decide +kernel
theorem dM_enter_167 : decode cM_enter 167 = .ok (.iaload, 1) := by decide +kernel
theorem dM_enter_168 : decode cM_enter 168 = .ok (.iastore, 1) := by decide +kernel
theorem dM_enter_169 : decode cM_enter 169 = .ok (.iinc 3 1, 3) := by decide +kernel
theorem dM_enter_172 : decode cM_enter 172 = .ok (.goto (-121), 3) := by decide +kernel
theorem dM_enter_175 : decode cM_enter 175 = .ok (.aload_n 0, 1) := by decide +kernel
theorem dM_enter_176 : decode cM_enter 176 = .ok (.getfield 59, 3) := by decide +kernel
theorem dM_enter_179 : decode cM_enter 179 = .ok (.aload_n 0, 1) := by decide +kernel
theorem dM_enter_180 : decode cM_enter 180 = .ok (.getfield 84, 3) := by decide +kernel
theorem dM_enter_183 : decode cM_enter 183 = .ok (.aload_n 0, 1) := by decide +kernel
theorem dM_enter_184 : decode cM_enter 184 = .ok (.getfield 52, 3) := by decide +kernel
theorem dM_enter_187 : decode cM_enter 187 = .ok (.iastore, 1) := by decide +kernel
theorem dM_enter_188 : decode cM_enter 188 = .ok (.aload_n 0, 1) := by decide +kernel
theorem dM_enter_189 : decode cM_enter 189 = .ok (.iload_n 2, 1) := by decide +kernel
theorem dM_enter_190 : decode cM_enter 190 = .ok (.iconst 4, 1) := by decide +kernel
theorem dM_enter_191 : decode cM_enter 191 = .ok (.invokevirtual 101, 3) := by decide +kernel
theorem dM_enter_194 : decode cM_enter 194 = .ok (.istore_n 3, 1) := by decide +kernel
theorem dM_enter_195 : decode cM_enter 195 = .ok (.iconst 0, 1) := by decide +kernel
theorem dM_enter_196 : decode cM_enter 196 = .ok (.istore 4, 2) := by decide +kernel
theorem dM_enter_198 : decode cM_enter 198 = .ok (.iconst 0, 1) := by decide +kernel
theorem dM_enter_199 : decode cM_enter 199 = .ok (.istore 5, 2) := by decide +kernel
theorem dM_enter_201 : decode cM_enter 201 = .ok (.iload 5, 2) := by decide +kernel
theorem dM_enter_203 : decode cM_enter 203 = .ok (.aload_n 0, 1) := by decide +kernel
theorem dM_enter_204 : decode cM_enter 204 = .ok (.getfield 98, 3) := by decide +kernel
theorem dM_enter_207 : decode cM_enter 207 = .ok (.if_icmp .ge 75, 3) := by decide +kernel
theorem dM_enter_210 : decode cM_enter 210 = .ok (.aload_n 0, 1) := by decide +kernel
theorem dM_enter_211 : decode cM_enter 211 = .ok (.getfield 29, 3) := by decide +kernel
theorem dM_enter_214 : decode cM_enter 214 = .ok (.iload 5, 2) := by decide +kernel
theorem dM_enter_216 : decode cM_enter 216 = .ok (.iaload, 1) := by decide +kernel
theorem dM_enter_217 : decode cM_enter 217 = .ok (.iload_n 2, 1) := by decide +kernel
theorem dM_enter_218 : decode cM_enter 218 = .ok (.if_icmp .eq 6, 3) := by decide +kernel
theorem dM_enter_221 : decode cM_enter 221 = .ok (.goto 55, 3) := by decide +kernel
theorem dM_enter_224 : decode cM_enter 224 = .ok (.iload_n 3, 1) := by decide +kernel
theorem dM_enter_225 : decode cM_enter 225 = .ok (.ifCond .eq 28, 3) := by decide +kernel
theorem dM_enter_228 : decode cM_enter 228 = .ok (.aload_n 0, 1) := by decide +kernel
theorem dM_enter_229 : decode cM_enter 229 = .ok (.getfield 49, 3) := by decide +kernel
theorem dM_enter_232 : decode cM_enter 232 = .ok (.aload_n 0, 1) := by decide +kernel
theorem dM_enter_233 : decode cM_enter 233 = .ok (.getfield 52, 3) := by decide +kernel
theorem dM_enter_236 : decode cM_enter 236 = .ok (.iload 4, 2) := by decide +kernel
theorem dM_enter_238 : decode cM_enter 238 = .ok (.iadd, 1) := by decide +kernel
theorem dM_enter_239 : decode cM_enter 239 = .ok (.aload_n 0, 1) := by decide +kernel
theorem dM_enter_240 : decode cM_enter 240 = .ok (.getfield 38, 3) := by decide +kernel
theorem dM_enter_243 : decode cM_enter 243 = .ok (.iload 5, 2) := by decide +kernel
theorem dM_enter_245 : decode cM_enter 245 = .ok (.laload, 1) := by decide +kernel
theorem dM_enter_246 : decode cM_enter 246 = .ok (.lastore, 1) := by decide +kernel
theorem dM_enter_247 : decode cM_enter 247 = .ok (.iinc 4 1, 3) := by decide +kernel
theorem dM_enter_250 : decode cM_enter 250 = .ok (.goto 26, 3) := by decide +kernel
theorem dM_enter_253 : decode cM_enter 253 = .ok (.aload_n 0, 1) := by decide +kernel
theorem dM_enter_254 : decode cM_enter 254 = .ok (.iload_n 2, 1) := by decide +kernel
theorem dM_enter_255 : decode cM_enter 255 = .ok (.iconst 1, 1) := by decide +kernel
theorem dM_enter_256 : decode cM_enter 256 = .ok (.invokevirtual 101, 3) := by decide +kernel
theorem dM_enter_259 : decode cM_enter 259 = .ok (.ifCond .eq 17, 3) := by decide +kernel
theorem dM_enter_262 : decode cM_enter 262 = .ok (.aload_n 0, 1) := by decide +kernel
theorem dM_enter_263 : decode cM_enter 263 = .ok (.getfield 49, 3) := by decide +kernel
theorem dM_enter_266 : decode cM_enter 266 = .ok (.iload 5, 2) := by decide +kernel
theorem dM_enter_268 : decode cM_enter 268 = .ok (.aload_n 0, 1) := by decide +kernel
theorem dM_enter_269 : decode cM_enter 269 = .ok (.getfield 38, 3) := by decide +kernel
theorem dM_enter_272 : decode cM_enter 272 = .ok (.iload 5, 2) := by decide +kernel
theorem dM_enter_274 : decode cM_enter 274 = .ok (.laload, 1) := by decide +kernel
theorem dM_enter_275 : decode cM_enter 275 = .ok (.lastore, 1) := by decide +kernel
theorem dM_enter_276 : decode cM_enter 276 = .ok (.iinc 5 1, 3) := by decide +kernel
theorem dM_enter_279 : decode cM_enter 279 = .ok (.goto (-78), 3) := by decide +kernel
theorem dM_enter_282 : decode cM_enter 282 = .ok (.aload_n 0, 1) := by decide +kernel
theorem dM_enter_283 : decode cM_enter 283 = .ok (.dup, 1) := by decide +kernel
theorem dM_enter_284 : decode cM_enter 284 = .ok (.getfield 52, 3) := by decide +kernel
theorem dM_enter_287 : decode cM_enter 287 = .ok (.iload 4, 2) := by decide +kernel
theorem dM_enter_289 : decode cM_enter 289 = .ok (.iadd, 1) := by decide +kernel
theorem dM_enter_290 : decode cM_enter 290 = .ok (.putfield 52, 3) := by decide +kernel
theorem dM_enter_293 : decode cM_enter 293 = .ok (.aload_n 0, 1) := by decide +kernel
theorem dM_enter_294 : decode cM_enter 294 = .ok (.getfield 22, 3) := by decide +kernel
theorem dM_enter_297 : decode cM_enter 297 = .ok (.iload_n 2, 1) := by decide +kernel
theorem dM_enter_298 : decode cM_enter 298 = .ok (.dup2, 1) := by decide +kernel
theorem dM_enter_299 : decode cM_enter 299 = .ok (.iaload, 1) := by decide +kernel
theorem dM_enter_300 : decode cM_enter 300 = .ok (.iconst 1, 1) := by decide +kernel
theorem dM_enter_301 : decode cM_enter 301 = .ok (.iadd, 1) := by decide +kernel
theorem dM_enter_302 : decode cM_enter 302 = .ok (.iastore, 1) := by decide +kernel
theorem dM_enter_303 : decode cM_enter 303 = .ok (.aload_n 0, 1) := by decide +kernel
theorem dM_enter_304 : decode cM_enter 304 = .ok (.getfield 25, 3) := by decide +kernel
theorem dM_enter_307 : decode cM_enter 307 = .ok (.iload_n 2, 1) := by decide +kernel
theorem dM_enter_308 : decode cM_enter 308 = .ok (.iconst 1, 1) := by decide +kernel
theorem dM_enter_309 : decode cM_enter 309 = .ok (.bastore, 1) := by decide +kernel
theorem dM_enter_310 : decode cM_enter 310 = .ok (.aload_n 0, 1) := by decide +kernel
theorem dM_enter_311 : decode cM_enter 311 = .ok (.dup, 1) := by decide +kernel
theorem dM_enter_312 : decode cM_enter 312 = .ok (.getfield 84, 3) := by decide +kernel
theorem dM_enter_315 : decode cM_enter 315 = .ok (.iconst 1, 1) := by decide +kernel
theorem dM_enter_316 : decode cM_enter 316 = .ok (.iadd, 1) := by decide +kernel
theorem dM_enter_317 : decode cM_enter 317 = .ok (.putfield 84, 3) := by decide +kernel
theorem dM_enter_320 : decode cM_enter 320 = .ok (.aload_n 0, 1) := by decide +kernel
theorem dM_enter_321 : decode cM_enter 321 = .ok (.iconst 0, 1) := by decide +kernel
theorem dM_enter_322 : decode cM_enter 322 = .ok (.putfield 129, 3) := by decide +kernel
theorem dM_enter_325 : decode cM_enter 325 = .ok (.aload_n 0, 1) := by decide +kernel
theorem dM_enter_326 : decode cM_enter 326 = .ok (.iconst 0, 1) := by decide +kernel
theorem dM_enter_327 : decode cM_enter 327 = .ok (.putfield 135, 3) := by decide +kernel
theorem dM_enter_330 : decode cM_enter 330 = .ok (.iconst 1, 1) := by decide +kernel
theorem dM_enter_331 : decode cM_enter 331 = .ok (.ireturn, 1) := by decide +kernel
theorem dM_refusal_0 : decode cM_refusal 0 = .ok (.aload_n 0, 1) := by decide +kernel
theorem dM_refusal_1 : decode cM_refusal 1 = .ok (.getfield 129, 3) := by decide +kernel
theorem dM_refusal_4 : decode cM_refusal 4 = .ok (.istore_n 1, 1) := by decide +kernel
theorem dM_refusal_5 : decode cM_refusal 5 = .ok (.iload_n 1, 1) := by decide +kernel
theorem dM_refusal_6 : decode cM_refusal 6 = .ok (.ifCond .ne 6, 3) := by decide +kernel
theorem dM_refusal_9 : decode cM_refusal 9 = .ok (.bipush (-4), 2) := by decide +kernel
theorem dM_refusal_11 : decode cM_refusal 11 = .ok (.ireturn, 1) := by decide +kernel
theorem dM_refusal_12 : decode cM_refusal 12 = .ok (.aload_n 0, 1) := by decide +kernel
theorem dM_refusal_13 : decode cM_refusal 13 = .ok (.getfield 135, 3) := by decide +kernel
theorem dM_refusal_16 : decode cM_refusal 16 = .ok (.aload_n 0, 1) := by decide +kernel
theorem dM_refusal_17 : decode cM_refusal 17 = .ok (.getfield 19, 3) := by decide +kernel
theorem dM_refusal_20 : decode cM_refusal 20 = .ok (.iload_n 1, 1) := by decide +kernel
theorem dM_refusal_21 : decode cM_refusal 21 = .ok (.iaload, 1) := by decide +kernel
theorem dM_refusal_22 : decode cM_refusal 22 = .ok (.if_icmp .le 7, 3) := by decide +kernel
theorem dM_refusal_25 : decode cM_refusal 25 = .ok (.iconst 1, 1) := by decide +kernel
theorem dM_refusal_26 : decode cM_refusal 26 = .ok (.goto 4, 3) := by decide +kernel
theorem dM_refusal_29 : decode cM_refusal 29 = .ok (.iconst 0, 1) := by decide +kernel
theorem dM_refusal_30 : decode cM_refusal 30 = .ok (.istore_n 2, 1) := by decide +kernel
theorem dM_refusal_31 : decode cM_refusal 31 = .ok (.iconst 0, 1) := by decide +kernel
theorem dM_refusal_32 : decode cM_refusal 32 = .ok (.istore_n 3, 1) := by decide +kernel
theorem dM_refusal_33 : decode cM_refusal 33 = .ok (.iload_n 3, 1) := by decide +kernel
theorem dM_refusal_34 : decode cM_refusal 34 = .ok (.aload_n 0, 1) := by decide +kernel
theorem dM_refusal_35 : decode cM_refusal 35 = .ok (.getfield 19, 3) := by decide +kernel
theorem dM_refusal_38 : decode cM_refusal 38 = .ok (.iload_n 1, 1) := by decide +kernel
theorem dM_refusal_39 : decode cM_refusal 39 = .ok (.iaload, 1) := by decide +kernel
theorem dM_refusal_40 : decode cM_refusal 40 = .ok (.if_icmp .ge 54, 3) := by decide +kernel
theorem dM_refusal_43 : decode cM_refusal 43 = .ok (.iload_n 2, 1) := by decide +kernel
theorem dM_refusal_44 : decode cM_refusal 44 = .ok (.ifCond .ne 38, 3) := by decide +kernel
theorem dM_refusal_47 : decode cM_refusal 47 = .ok (.iload_n 3, 1) := by decide +kernel
theorem dM_refusal_48 : decode cM_refusal 48 = .ok (.aload_n 0, 1) := by decide +kernel
theorem dM_refusal_49 : decode cM_refusal 49 = .ok (.getfield 135, 3) := by decide +kernel
theorem dM_refusal_52 : decode cM_refusal 52 = .ok (.if_icmp .ge 13, 3) := by decide +kernel
theorem dM_refusal_55 : decode cM_refusal 55 = .ok (.aload_n 0, 1) := by decide +kernel
theorem dM_refusal_56 : decode cM_refusal 56 = .ok (.getfield 68, 3) := by decide +kernel
theorem dM_refusal_59 : decode cM_refusal 59 = .ok (.iload_n 3, 1) := by decide +kernel
theorem dM_refusal_60 : decode cM_refusal 60 = .ok (.iaload, 1) := by decide +kernel
theorem dM_refusal_61 : decode cM_refusal 61 = .ok (.iconst (-1), 1) := by decide +kernel
theorem dM_refusal_62 : decode cM_refusal 62 = .ok (.if_icmp .ne 24, 3) := by decide +kernel
theorem dM_refusal_65 : decode cM_refusal 65 = .ok (.aload_n 0, 1) := by decide +kernel
theorem dM_refusal_66 : decode cM_refusal 66 = .ok (.getfield 42, 3) := by decide +kernel
theorem dM_refusal_69 : decode cM_refusal 69 = .ok (.bipush 16, 2) := by decide +kernel
theorem dM_refusal_71 : decode cM_refusal 71 = .ok (.iload_n 1, 1) := by decide +kernel
theorem dM_refusal_72 : decode cM_refusal 72 = .ok (.iconst 1, 1) := by decide +kernel
theorem dM_refusal_73 : decode cM_refusal 73 = .ok (.isub, 1) := by decide +kernel
theorem dM_refusal_74 : decode cM_refusal 74 = .ok (.imul, 1) := by decide +kernel
theorem dM_refusal_75 : decode cM_refusal 75 = .ok (.iload_n 3, 1) := by decide +kernel
theorem dM_refusal_76 : decode cM_refusal 76 = .ok (.iadd, 1) := by decide +kernel
theorem dM_refusal_77 : decode cM_refusal 77 = .ok (.iaload, 1) := by decide +kernel
theorem dM_refusal_78 : decode cM_refusal 78 = .ok (.iconst 2, 1) := by decide +kernel
theorem dM_refusal_79 : decode cM_refusal 79 = .ok (.if_icmp .ge 7, 3) := by decide +kernel
theorem dM_refusal_82 : decode cM_refusal 82 = .ok (.iconst 1, 1) := by decide +kernel
theorem dM_refusal_83 : decode cM_refusal 83 = .ok (.goto 4, 3) := by decide +kernel
theorem dM_refusal_86 : decode cM_refusal 86 = .ok (.iconst 0, 1) := by decide +kernel
theorem dM_refusal_87 : decode cM_refusal 87 = .ok (.istore_n 2, 1) := by decide +kernel
theorem dM_refusal_88 : decode cM_refusal 88 = .ok (.iinc 3 1, 3) := by decide +kernel
theorem dM_refusal_91 : decode cM_refusal 91 = .ok (.goto (-58), 3) := by decide +kernel
theorem dM_refusal_94 : decode cM_refusal 94 = .ok (.iload_n 2, 1) := by decide +kernel
theorem dM_refusal_95 : decode cM_refusal 95 = .ok (.ifCond .eq 6, 3) := by decide +kernel
theorem dM_refusal_98 : decode cM_refusal 98 = .ok (.bipush (-7), 2) := by decide +kernel
theorem dM_refusal_100 : decode cM_refusal 100 = .ok (.ireturn, 1) := by decide +kernel
theorem dM_refusal_101 : decode cM_refusal 101 = .ok (.iconst 0, 1) := by decide +kernel
theorem dM_refusal_102 : decode cM_refusal 102 = .ok (.istore_n 3, 1) := by decide +kernel
theorem dM_refusal_103 : decode cM_refusal 103 = .ok (.iload_n 3, 1) := by decide +kernel
theorem dM_refusal_104 : decode cM_refusal 104 = .ok (.aload_n 0, 1) := by decide +kernel
theorem dM_refusal_105 : decode cM_refusal 105 = .ok (.getfield 135, 3) := by decide +kernel
theorem dM_refusal_108 : decode cM_refusal 108 = .ok (.if_icmp .ge 44, 3) := by decide +kernel
theorem dM_refusal_111 : decode cM_refusal 111 = .ok (.aload_n 0, 1) := by decide +kernel
theorem dM_refusal_112 : decode cM_refusal 112 = .ok (.getfield 68, 3) := by decide +kernel
theorem dM_refusal_115 : decode cM_refusal 115 = .ok (.iload_n 3, 1) := by decide +kernel
theorem dM_refusal_116 : decode cM_refusal 116 = .ok (.iaload, 1) := by decide +kernel
theorem dM_refusal_117 : decode cM_refusal 117 = .ok (.iconst (-1), 1) := by decide +kernel
theorem dM_refusal_118 : decode cM_refusal 118 = .ok (.if_icmp .eq 28, 3) := by decide +kernel
theorem dM_refusal_121 : decode cM_refusal 121 = .ok (.aload_n 0, 1) := by decide +kernel
theorem dM_refusal_122 : decode cM_refusal 122 = .ok (.getfield 71, 3) := by decide +kernel
theorem dM_refusal_125 : decode cM_refusal 125 = .ok (.iload_n 3, 1) := by decide +kernel
theorem dM_refusal_126 : decode cM_refusal 126 = .ok (.iaload, 1) := by decide +kernel
theorem dM_refusal_127 : decode cM_refusal 127 = .ok (.aload_n 0, 1) := by decide +kernel
theorem dM_refusal_128 : decode cM_refusal 128 = .ok (.getfield 45, 3) := by decide +kernel
theorem dM_refusal_131 : decode cM_refusal 131 = .ok (.bipush 16, 2) := by decide +kernel
theorem dM_refusal_133 : decode cM_refusal 133 = .ok (.iload_n 1, 1) := by decide +kernel
theorem dM_refusal_134 : decode cM_refusal 134 = .ok (.iconst 1, 1) := by decide +kernel
theorem dM_refusal_135 : decode cM_refusal 135 = .ok (.isub, 1) := by decide +kernel
theorem dM_refusal_136 : decode cM_refusal 136 = .ok (.imul, 1) := by decide +kernel
theorem dM_refusal_137 : decode cM_refusal 137 = .ok (.iload_n 3, 1) := by decide +kernel
theorem dM_refusal_138 : decode cM_refusal 138 = .ok (.iadd, 1) := by decide +kernel
theorem dM_refusal_139 : decode cM_refusal 139 = .ok (.iaload, 1) := by decide +kernel
theorem dM_refusal_140 : decode cM_refusal 140 = .ok (.if_icmp .ge 6, 3) := by decide +kernel
theorem dM_refusal_143 : decode cM_refusal 143 = .ok (.bipush (-8), 2) := by decide +kernel
theorem dM_refusal_145 : decode cM_refusal 145 = .ok (.ireturn, 1) := by decide +kernel
theorem dM_refusal_146 : decode cM_refusal 146 = .ok (.iinc 3 1, 3) := by decide +kernel
theorem dM_refusal_149 : decode cM_refusal 149 = .ok (.goto (-46), 3) := by decide +kernel
theorem dM_refusal_152 : decode cM_refusal 152 = .ok (.iconst 1, 1) := by decide +kernel
theorem dM_refusal_153 : decode cM_refusal 153 = .ok (.ireturn, 1) := by decide +kernel
theorem dM_leave_0 : decode cM_leave 0 = .ok (.aload_n 0, 1) := by decide +kernel
theorem dM_leave_1 : decode cM_leave 1 = .ok (.iconst 0, 1) := by decide +kernel
theorem dM_leave_2 : decode cM_leave 2 = .ok (.putfield 78, 3) := by decide +kernel
theorem dM_leave_5 : decode cM_leave 5 = .ok (.aload_n 0, 1) := by decide +kernel
theorem dM_leave_6 : decode cM_leave 6 = .ok (.getfield 84, 3) := by decide +kernel
theorem dM_leave_9 : decode cM_leave 9 = .ok (.ifCond .ne 6, 3) := by decide +kernel
theorem dM_leave_12 : decode cM_leave 12 = .ok (.bipush (-4), 2) := by decide +kernel
theorem dM_leave_14 : decode cM_leave 14 = .ok (.ireturn, 1) := by decide +kernel
theorem dM_leave_15 : decode cM_leave 15 = .ok (.aload_n 0, 1) := by decide +kernel
theorem dM_leave_16 : decode cM_leave 16 = .ok (.invokevirtual 138, 3) := by decide +kernel
theorem dM_leave_19 : decode cM_leave 19 = .ok (.aload_n 0, 1) := by decide +kernel
theorem dM_leave_20 : decode cM_leave 20 = .ok (.invokevirtual 108, 3) := by decide +kernel
theorem dM_leave_23 : decode cM_leave 23 = .ok (.istore_n 3, 1) := by decide +kernel
theorem dM_leave_24 : decode cM_leave 24 = .ok (.aload_n 0, 1) := by decide +kernel
theorem dM_leave_25 : decode cM_leave 25 = .ok (.dup, 1) := by decide +kernel
theorem dM_leave_26 : decode cM_leave 26 = .ok (.getfield 84, 3) := by decide +kernel
theorem dM_leave_29 : decode cM_leave 29 = .ok (.iconst 1, 1) := by decide +kernel
theorem dM_leave_30 : decode cM_leave 30 = .ok (.isub, 1) := by decide +kernel
theorem dM_leave_31 : decode cM_leave 31 = .ok (.putfield 84, 3) := by decide +kernel
theorem dM_leave_34 : decode cM_leave 34 = .ok (.aload_n 0, 1) := by decide +kernel
theorem dM_leave_35 : decode cM_leave 35 = .ok (.aload_n 0, 1) := by decide +kernel
theorem dM_leave_36 : decode cM_leave 36 = .ok (.getfield 62, 3) := by decide +kernel
theorem dM_leave_39 : decode cM_leave 39 = .ok (.aload_n 0, 1) := by decide +kernel
theorem dM_leave_40 : decode cM_leave 40 = .ok (.getfield 84, 3) := by decide +kernel
theorem dM_leave_43 : decode cM_leave 43 = .ok (.iaload, 1) := by decide +kernel
theorem dM_leave_44 : decode cM_leave 44 = .ok (.putfield 52, 3) := by decide +kernel
theorem dM_leave_47 : decode cM_leave 47 = .ok (.aload_n 0, 1) := by decide +kernel
theorem dM_leave_48 : decode cM_leave 48 = .ok (.getfield 22, 3) := by decide +kernel
theorem dM_leave_51 : decode cM_leave 51 = .ok (.iload_n 3, 1) := by decide +kernel
theorem dM_leave_52 : decode cM_leave 52 = .ok (.dup2, 1) := by decide +kernel
theorem dM_leave_53 : decode cM_leave 53 = .ok (.iaload, 1) := by decide +kernel
theorem dM_leave_54 : decode cM_leave 54 = .ok (.iconst 1, 1) := by decide +kernel
theorem dM_leave_55 : decode cM_leave 55 = .ok (.isub, 1) := by decide +kernel
theorem dM_leave_56 : decode cM_leave 56 = .ok (.iastore, 1) := by decide +kernel
theorem dM_leave_57 : decode cM_leave 57 = .ok (.aload_n 0, 1) := by decide +kernel
theorem dM_leave_58 : decode cM_leave 58 = .ok (.getfield 25, 3) := by decide +kernel
theorem dM_leave_61 : decode cM_leave 61 = .ok (.iload_n 3, 1) := by decide +kernel
theorem dM_leave_62 : decode cM_leave 62 = .ok (.aload_n 0, 1) := by decide +kernel
theorem dM_leave_63 : decode cM_leave 63 = .ok (.getfield 25, 3) := by decide +kernel
theorem dM_leave_66 : decode cM_leave 66 = .ok (.iload_n 3, 1) := by decide +kernel
theorem dM_leave_67 : decode cM_leave 67 = .ok (.baload, 1) := by decide +kernel
theorem dM_leave_68 : decode cM_leave 68 = .ok (.ifCond .eq 25, 3) := by decide +kernel
theorem dM_leave_71 : decode cM_leave 71 = .ok (.aload_n 0, 1) := by decide +kernel
theorem dM_leave_72 : decode cM_leave 72 = .ok (.iload_n 3, 1) := by decide +kernel
theorem dM_leave_73 : decode cM_leave 73 = .ok (.iconst 1, 1) := by decide +kernel
theorem dM_leave_74 : decode cM_leave 74 = .ok (.invokevirtual 101, 3) := by decide +kernel
theorem dM_leave_77 : decode cM_leave 77 = .ok (.ifCond .ne 16, 3) := by decide +kernel
theorem dM_leave_80 : decode cM_leave 80 = .ok (.aload_n 0, 1) := by decide +kernel
theorem dM_leave_81 : decode cM_leave 81 = .ok (.iload_n 3, 1) := by decide +kernel
theorem dM_leave_82 : decode cM_leave 82 = .ok (.iconst 4, 1) := by decide +kernel
theorem dM_leave_83 : decode cM_leave 83 = .ok (.invokevirtual 101, 3) := by decide +kernel
theorem dM_leave_86 : decode cM_leave 86 = .ok (.ifCond .ne 7, 3) := by decide +kernel
theorem dM_leave_89 : decode cM_leave 89 = .ok (.iconst 1, 1) := by decide +kernel
theorem dM_leave_90 : decode cM_leave 90 = .ok (.goto 4, 3) := by decide +kernel
theorem dM_leave_93 : decode cM_leave 93 = .ok (.iconst 0, 1) := by decide +kernel
theorem dM_leave_94 : decode cM_leave 94 = .ok (.bastore, 1) := by decide +kernel
theorem dM_leave_95 : decode cM_leave 95 = .ok (.aload_n 0, 1) := by decide +kernel
theorem dM_leave_96 : decode cM_leave 96 = .ok (.lload_n 1, 1) := by decide +kernel
theorem dM_leave_97 : decode cM_leave 97 = .ok (.putfield 154, 3) := by decide +kernel
theorem dM_leave_100 : decode cM_leave 100 = .ok (.aload_n 0, 1) := by decide +kernel
theorem dM_leave_101 : decode cM_leave 101 = .ok (.invokevirtual 108, 3) := by decide +kernel
theorem dM_leave_104 : decode cM_leave 104 = .ok (.ireturn, 1) := by decide +kernel
theorem dM_cancel_0 : decode cM_cancel 0 = .ok (.aload_n 0, 1) := by decide +kernel
theorem dM_cancel_1 : decode cM_cancel 1 = .ok (.iconst 0, 1) := by decide +kernel
theorem dM_cancel_2 : decode cM_cancel 2 = .ok (.putfield 78, 3) := by decide +kernel
theorem dM_cancel_5 : decode cM_cancel 5 = .ok (.aload_n 0, 1) := by decide +kernel
theorem dM_cancel_6 : decode cM_cancel 6 = .ok (.iload_n 1, 1) := by decide +kernel
theorem dM_cancel_7 : decode cM_cancel 7 = .ok (.iload_n 2, 1) := by decide +kernel
theorem dM_cancel_8 : decode cM_cancel 8 = .ok (.invokevirtual 141, 3) := by decide +kernel
theorem dM_cancel_11 : decode cM_cancel 11 = .ok (.ifCond .ne 6, 3) := by decide +kernel
theorem dM_cancel_14 : decode cM_cancel 14 = .ok (.bipush (-2), 2) := by decide +kernel
theorem dM_cancel_16 : decode cM_cancel 16 = .ok (.ireturn, 1) := by decide +kernel
theorem dM_cancel_17 : decode cM_cancel 17 = .ok (.aload_n 0, 1) := by decide +kernel
theorem dM_cancel_18 : decode cM_cancel 18 = .ok (.iload_n 1, 1) := by decide +kernel
theorem dM_cancel_19 : decode cM_cancel 19 = .ok (.iload_n 2, 1) := by decide +kernel
theorem dM_cancel_20 : decode cM_cancel 20 = .ok (.invokevirtual 144, 3) := by decide +kernel
theorem dM_cancel_23 : decode cM_cancel 23 = .ok (.istore_n 3, 1) := by decide +kernel
theorem dM_cancel_24 : decode cM_cancel 24 = .ok (.iload_n 3, 1) := by decide +kernel
theorem dM_cancel_25 : decode cM_cancel 25 = .ok (.ifCond .ne 6, 3) := by decide +kernel
theorem dM_cancel_28 : decode cM_cancel 28 = .ok (.bipush (-3), 2) := by decide +kernel
theorem dM_cancel_30 : decode cM_cancel 30 = .ok (.ireturn, 1) := by decide +kernel
theorem dM_cancel_31 : decode cM_cancel 31 = .ok (.iconst 1, 1) := by decide +kernel
theorem dM_cancel_32 : decode cM_cancel 32 = .ok (.istore 4, 2) := by decide +kernel
theorem dM_cancel_34 : decode cM_cancel 34 = .ok (.iload 4, 2) := by decide +kernel
theorem dM_cancel_36 : decode cM_cancel 36 = .ok (.aload_n 0, 1) := by decide +kernel
theorem dM_cancel_37 : decode cM_cancel 37 = .ok (.getfield 81, 3) := by decide +kernel
theorem dM_cancel_40 : decode cM_cancel 40 = .ok (.if_icmp .gt 32, 3) := by decide +kernel
theorem dM_cancel_43 : decode cM_cancel 43 = .ok (.aload_n 0, 1) := by decide +kernel
theorem dM_cancel_44 : decode cM_cancel 44 = .ok (.iload 4, 2) := by decide +kernel
theorem dM_cancel_46 : decode cM_cancel 46 = .ok (.iload_n 3, 1) := by decide +kernel
theorem dM_cancel_47 : decode cM_cancel 47 = .ok (.invokevirtual 105, 3) := by decide +kernel
theorem dM_cancel_50 : decode cM_cancel 50 = .ok (.ifCond .eq 16, 3) := by decide +kernel
theorem dM_cancel_53 : decode cM_cancel 53 = .ok (.aload_n 0, 1) := by decide +kernel
theorem dM_cancel_54 : decode cM_cancel 54 = .ok (.getfield 22, 3) := by decide +kernel
theorem dM_cancel_57 : decode cM_cancel 57 = .ok (.iload 4, 2) := by decide +kernel
theorem dM_cancel_59 : decode cM_cancel 59 = .ok (.iaload, 1) := by decide +kernel
theorem dM_cancel_60 : decode cM_cancel 60 = .ok (.ifCond .le 6, 3) := by decide +kernel
theorem dM_cancel_63 : decode cM_cancel 63 = .ok (.bipush (-5), 2) := by decide +kernel
theorem dM_cancel_65 : decode cM_cancel 65 = .ok (.ireturn, 1) := by decide +kernel
theorem dM_cancel_66 : decode cM_cancel 66 = .ok (.iinc 4 1, 3) := by decide +kernel
theorem dM_cancel_69 : decode cM_cancel 69 = .ok (.goto (-35), 3) := by decide +kernel
theorem dM_cancel_72 : decode cM_cancel 72 = .ok (.iconst 0, 1) := by decide +kernel
theorem dM_cancel_73 : decode cM_cancel 73 = .ok (.istore 4, 2) := by decide +kernel
theorem dM_cancel_75 : decode cM_cancel 75 = .ok (.iconst 1, 1) := by decide +kernel
theorem dM_cancel_76 : decode cM_cancel 76 = .ok (.istore 5, 2) := by decide +kernel
theorem dM_cancel_78 : decode cM_cancel 78 = .ok (.iload 5, 2) := by decide +kernel
theorem dM_cancel_80 : decode cM_cancel 80 = .ok (.aload_n 0, 1) := by decide +kernel
theorem dM_cancel_81 : decode cM_cancel 81 = .ok (.getfield 81, 3) := by decide +kernel
theorem dM_cancel_84 : decode cM_cancel 84 = .ok (.if_icmp .gt 104, 3) := by decide +kernel
theorem dM_cancel_87 : decode cM_cancel 87 = .ok (.aload_n 0, 1) := by decide +kernel
theorem dM_cancel_88 : decode cM_cancel 88 = .ok (.iload 5, 2) := by decide +kernel
theorem dM_cancel_90 : decode cM_cancel 90 = .ok (.iload_n 3, 1) := by decide +kernel
theorem dM_cancel_91 : decode cM_cancel 91 = .ok (.invokevirtual 105, 3) := by decide +kernel
theorem dM_cancel_94 : decode cM_cancel 94 = .ok (.ifCond .ne 6, 3) := by decide +kernel
theorem dM_cancel_97 : decode cM_cancel 97 = .ok (.goto 85, 3) := by decide +kernel
theorem dM_cancel_100 : decode cM_cancel 100 = .ok (.iload 4, 2) := by decide +kernel
theorem dM_cancel_102 : decode cM_cancel 102 = .ok (.aload_n 0, 1) := by decide +kernel
theorem dM_cancel_103 : decode cM_cancel 103 = .ok (.getfield 25, 3) := by decide +kernel
theorem dM_cancel_106 : decode cM_cancel 106 = .ok (.iload 5, 2) := by decide +kernel
theorem dM_cancel_108 : decode cM_cancel 108 = .ok (.baload, 1) := by decide +kernel
theorem dM_cancel_109 : decode cM_cancel 109 = .ok (.ifCond .eq 7, 3) := by decide +kernel
theorem dM_cancel_112 : decode cM_cancel 112 = .ok (.iconst 1, 1) := by decide +kernel
theorem dM_cancel_113 : decode cM_cancel 113 = .ok (.goto 4, 3) := by decide +kernel
theorem dM_cancel_116 : decode cM_cancel 116 = .ok (.iconst 0, 1) := by decide +kernel
theorem dM_cancel_117 : decode cM_cancel 117 = .ok (.iadd, 1) := by decide +kernel
theorem dM_cancel_118 : decode cM_cancel 118 = .ok (.istore 4, 2) := by decide +kernel
theorem dM_cancel_120 : decode cM_cancel 120 = .ok (.aload_n 0, 1) := by decide +kernel
theorem dM_cancel_121 : decode cM_cancel 121 = .ok (.getfield 25, 3) := by decide +kernel
theorem dM_cancel_124 : decode cM_cancel 124 = .ok (.iload 5, 2) := by decide +kernel
theorem dM_cancel_126 : decode cM_cancel 126 = .ok (.iconst 0, 1) := by decide +kernel
theorem dM_cancel_127 : decode cM_cancel 127 = .ok (.bastore, 1) := by decide +kernel
theorem dM_cancel_128 : decode cM_cancel 128 = .ok (.iconst 0, 1) := by decide +kernel
theorem dM_cancel_129 : decode cM_cancel 129 = .ok (.istore 6, 2) := by decide +kernel
theorem dM_cancel_131 : decode cM_cancel 131 = .ok (.iload 6, 2) := by decide +kernel
theorem dM_cancel_133 : decode cM_cancel 133 = .ok (.aload_n 0, 1) := by decide +kernel
theorem dM_cancel_134 : decode cM_cancel 134 = .ok (.getfield 98, 3) := by decide +kernel
theorem dM_cancel_137 : decode cM_cancel 137 = .ok (.if_icmp .ge 45, 3) := by decide +kernel
theorem dM_cancel_140 : decode cM_cancel 140 = .ok (.aload_n 0, 1) := by decide +kernel
theorem dM_cancel_141 : decode cM_cancel 141 = .ok (.getfield 49, 3) := by decide +kernel
theorem dM_cancel_144 : decode cM_cancel 144 = .ok (.iload 6, 2) := by decide +kernel
theorem dM_cancel_146 : decode cM_cancel 146 = .ok (.aload_n 0, 1) := by decide +kernel
theorem dM_cancel_147 : decode cM_cancel 147 = .ok (.getfield 29, 3) := by decide +kernel
theorem dM_cancel_150 : decode cM_cancel 150 = .ok (.iload 6, 2) := by decide +kernel
theorem dM_cancel_152 : decode cM_cancel 152 = .ok (.iaload, 1) := by decide +kernel
theorem dM_cancel_153 : decode cM_cancel 153 = .ok (.iload 5, 2) := by decide +kernel
theorem dM_cancel_155 : decode cM_cancel 155 = .ok (.if_icmp .ne 13, 3) := by decide +kernel
theorem dM_cancel_158 : decode cM_cancel 158 = .ok (.aload_n 0, 1) := by decide +kernel
theorem dM_cancel_159 : decode cM_cancel 159 = .ok (.getfield 38, 3) := by decide +kernel
theorem dM_cancel_162 : decode cM_cancel 162 = .ok (.iload 6, 2) := by decide +kernel
theorem dM_cancel_164 : decode cM_cancel 164 = .ok (.laload, 1) := by decide +kernel
theorem dM_cancel_165 : decode cM_cancel 165 = .ok (.goto 10, 3) := by decide +kernel
theorem dM_cancel_168 : decode cM_cancel 168 = .ok (.aload_n 0, 1) := by decide +kernel
theorem dM_cancel_169 : decode cM_cancel 169 = .ok (.getfield 49, 3) := by decide +kernel
theorem dM_cancel_172 : decode cM_cancel 172 = .ok (.iload 6, 2) := by decide +kernel
theorem dM_cancel_174 : decode cM_cancel 174 = .ok (.laload, 1) := by decide +kernel
theorem dM_cancel_175 : decode cM_cancel 175 = .ok (.lastore, 1) := by decide +kernel
theorem dM_cancel_176 : decode cM_cancel 176 = .ok (.iinc 6 1, 3) := by decide +kernel
theorem dM_cancel_179 : decode cM_cancel 179 = .ok (.goto (-48), 3) := by decide +kernel
theorem dM_cancel_182 : decode cM_cancel 182 = .ok (.iinc 5 1, 3) := by decide +kernel
theorem dM_cancel_185 : decode cM_cancel 185 = .ok (.goto (-107), 3) := by decide +kernel
theorem dM_cancel_188 : decode cM_cancel 188 = .ok (.iload 4, 2) := by decide +kernel
theorem dM_cancel_190 : decode cM_cancel 190 = .ok (.ireturn, 1) := by decide +kernel
theorem dM_state_0 : decode cM_state 0 = .ok (.aload_n 0, 1) := by decide +kernel
theorem dM_state_1 : decode cM_state 1 = .ok (.iconst 0, 1) := by decide +kernel
theorem dM_state_2 : decode cM_state 2 = .ok (.putfield 78, 3) := by decide +kernel
theorem dM_state_5 : decode cM_state 5 = .ok (.aload_n 0, 1) := by decide +kernel
theorem dM_state_6 : decode cM_state 6 = .ok (.iload_n 1, 1) := by decide +kernel
theorem dM_state_7 : decode cM_state 7 = .ok (.invokevirtual 95, 3) := by decide +kernel
theorem dM_state_10 : decode cM_state 10 = .ok (.ifCond .ne 7, 3) := by decide +kernel
theorem dM_state_13 : decode cM_state 13 = .ok (.iconst (-1), 1) := by decide +kernel
theorem dM_state_14 : decode cM_state 14 = .ok (.goto 30, 3) := by decide +kernel
theorem dM_state_17 : decode cM_state 17 = .ok (.aload_n 0, 1) := by decide +kernel
theorem dM_state_18 : decode cM_state 18 = .ok (.getfield 22, 3) := by decide +kernel
theorem dM_state_21 : decode cM_state 21 = .ok (.iload_n 1, 1) := by decide +kernel
theorem dM_state_22 : decode cM_state 22 = .ok (.iaload, 1) := by decide +kernel
theorem dM_state_23 : decode cM_state 23 = .ok (.ifCond .le 7, 3) := by decide +kernel
theorem dM_state_26 : decode cM_state 26 = .ok (.iconst 2, 1) := by decide +kernel
theorem dM_state_27 : decode cM_state 27 = .ok (.goto 17, 3) := by decide +kernel
theorem dM_state_30 : decode cM_state 30 = .ok (.aload_n 0, 1) := by decide +kernel
theorem dM_state_31 : decode cM_state 31 = .ok (.getfield 25, 3) := by decide +kernel
theorem dM_state_34 : decode cM_state 34 = .ok (.iload_n 1, 1) := by decide +kernel
theorem dM_state_35 : decode cM_state 35 = .ok (.baload, 1) := by decide +kernel
theorem dM_state_36 : decode cM_state 36 = .ok (.ifCond .eq 7, 3) := by decide +kernel
theorem dM_state_39 : decode cM_state 39 = .ok (.iconst 1, 1) := by decide +kernel
theorem dM_state_40 : decode cM_state 40 = .ok (.goto 4, 3) := by decide +kernel
theorem dM_state_43 : decode cM_state 43 = .ok (.iconst 0, 1) := by decide +kernel
theorem dM_state_44 : decode cM_state 44 = .ok (.ireturn, 1) := by decide +kernel
theorem dM_returned_0 : decode cM_returned 0 = .ok (.aload_n 0, 1) := by decide +kernel
theorem dM_returned_1 : decode cM_returned 1 = .ok (.iconst 0, 1) := by decide +kernel
theorem dM_returned_2 : decode cM_returned 2 = .ok (.putfield 78, 3) := by decide +kernel
theorem dM_returned_5 : decode cM_returned 5 = .ok (.aload_n 0, 1) := by decide +kernel
theorem dM_returned_6 : decode cM_returned 6 = .ok (.getfield 154, 3) := by decide +kernel
theorem dM_returned_9 : decode cM_returned 9 = .ok (.lreturn, 1) := by decide +kernel
theorem dM_count_0 : decode cM_count 0 = .ok (.aload_n 0, 1) := by decide +kernel
theorem dM_count_1 : decode cM_count 1 = .ok (.iconst 0, 1) := by decide +kernel
theorem dM_count_2 : decode cM_count 2 = .ok (.putfield 78, 3) := by decide +kernel
theorem dM_count_5 : decode cM_count 5 = .ok (.iload_n 1, 1) := by decide +kernel
theorem dM_count_6 : decode cM_count 6 = .ok (.tableswitch 93 0 6 #[42, 47, 52, 57, 62, 67, 72], 42) := by decide +kernel
theorem dM_count_48 : decode cM_count 48 = .ok (.aload_n 0, 1) := by decide +kernel
theorem dM_count_49 : decode cM_count 49 = .ok (.getfield 81, 3) := by decide +kernel
theorem dM_count_52 : decode cM_count 52 = .ok (.ireturn, 1) := by decide +kernel
theorem dM_count_53 : decode cM_count 53 = .ok (.aload_n 0, 1) := by decide +kernel
theorem dM_count_54 : decode cM_count 54 = .ok (.getfield 98, 3) := by decide +kernel
theorem dM_count_57 : decode cM_count 57 = .ok (.ireturn, 1) := by decide +kernel
theorem dM_count_58 : decode cM_count 58 = .ok (.aload_n 0, 1) := by decide +kernel
theorem dM_count_59 : decode cM_count 59 = .ok (.getfield 84, 3) := by decide +kernel
theorem dM_count_62 : decode cM_count 62 = .ok (.ireturn, 1) := by decide +kernel
theorem dM_count_63 : decode cM_count 63 = .ok (.aload_n 0, 1) := by decide +kernel
theorem dM_count_64 : decode cM_count 64 = .ok (.invokevirtual 108, 3) := by decide +kernel
theorem dM_count_67 : decode cM_count 67 = .ok (.ireturn, 1) := by decide +kernel
theorem dM_count_68 : decode cM_count 68 = .ok (.aload_n 0, 1) := by decide +kernel
theorem dM_count_69 : decode cM_count 69 = .ok (.getfield 129, 3) := by decide +kernel
theorem dM_count_72 : decode cM_count 72 = .ok (.ireturn, 1) := by decide +kernel
theorem dM_count_73 : decode cM_count 73 = .ok (.aload_n 0, 1) := by decide +kernel
theorem dM_count_74 : decode cM_count 74 = .ok (.getfield 135, 3) := by decide +kernel
theorem dM_count_77 : decode cM_count 77 = .ok (.ireturn, 1) := by decide +kernel
theorem dM_count_78 : decode cM_count 78 = .ok (.aload_n 0, 1) := by decide +kernel
theorem dM_count_79 : decode cM_count 79 = .ok (.invokevirtual 108, 3) := by decide +kernel
theorem dM_count_82 : decode cM_count 82 = .ok (.ifCond .ne 7, 3) := by decide +kernel
theorem dM_count_85 : decode cM_count 85 = .ok (.iconst 0, 1) := by decide +kernel
theorem dM_count_86 : decode cM_count 86 = .ok (.goto 12, 3) := by decide +kernel
theorem dM_count_89 : decode cM_count 89 = .ok (.aload_n 0, 1) := by decide +kernel
theorem dM_count_90 : decode cM_count 90 = .ok (.getfield 19, 3) := by decide +kernel
theorem dM_count_93 : decode cM_count 93 = .ok (.aload_n 0, 1) := by decide +kernel
theorem dM_count_94 : decode cM_count 94 = .ok (.invokevirtual 108, 3) := by decide +kernel
theorem dM_count_97 : decode cM_count 97 = .ok (.iaload, 1) := by decide +kernel
theorem dM_count_98 : decode cM_count 98 = .ok (.ireturn, 1) := by decide +kernel
theorem dM_count_99 : decode cM_count 99 = .ok (.iconst (-1), 1) := by decide +kernel
theorem dM_count_100 : decode cM_count 100 = .ok (.ireturn, 1) := by decide +kernel
