theorem dX0_init_0 : decode cX0_init 0 = .ok (.aload_n 0, 1) := by decide +kernel
theorem dX0_init_1 : decode cX0_init 1 = .ok (.invokespecial 3, 3) := by decide +kernel
theorem dX0_init_4 : decode cX0_init 4 = .ok (.aload_n 0, 1) := by decide +kernel
theorem dX0_init_5 : decode cX0_init 5 = .ok (.bipush 20, 2) := by decide +kernel
theorem dX0_init_7 : decode cX0_init 7 = .ok (.newarray .int, 2) := by decide +kernel
theorem dX0_init_9 : decode cX0_init 9 = .ok (.putfield 11, 3) := by decide +kernel
theorem dX0_init_12 : decode cX0_init 12 = .ok (.aload_n 0, 1) := by decide +kernel
theorem dX0_init_13 : decode cX0_init 13 = .ok (.bipush 20, 2) := by decide +kernel
theorem dX0_init_15 : decode cX0_init 15 = .ok (.newarray .int, 2) := by decide +kernel
theorem dX0_init_17 : decode cX0_init 17 = .ok (.putfield 15, 3) := by decide +kernel
theorem dX0_init_20 : decode cX0_init 20 = .ok (.aload_n 0, 1) := by decide +kernel
theorem dX0_init_21 : decode cX0_init 21 = .ok (.bipush 20, 2) := by decide +kernel
theorem dX0_init_23 : decode cX0_init 23 = .ok (.newarray .int, 2) := by decide +kernel
theorem dX0_init_25 : decode cX0_init 25 = .ok (.putfield 18, 3) := by decide +kernel
theorem dX0_init_28 : decode cX0_init 28 = .ok (.aload_n 0, 1) := by decide +kernel
theorem dX0_init_29 : decode cX0_init 29 = .ok (.sipush 300, 3) := by decide +kernel
theorem dX0_init_32 : decode cX0_init 32 = .ok (.newarray .int, 2) := by decide +kernel
theorem dX0_init_34 : decode cX0_init 34 = .ok (.putfield 21, 3) := by decide +kernel
theorem dX0_init_37 : decode cX0_init 37 = .ok (.return_, 1) := by decide +kernel
theorem dX0_clear_0 : decode cX0_clear 0 = .ok (.aload_n 0, 1) := by decide +kernel
theorem dX0_clear_1 : decode cX0_clear 1 = .ok (.iconst 0, 1) := by decide +kernel
theorem dX0_clear_2 : decode cX0_clear 2 = .ok (.putfield 24, 3) := by decide +kernel
theorem dX0_clear_5 : decode cX0_clear 5 = .ok (.aload_n 0, 1) := by decide +kernel
theorem dX0_clear_6 : decode cX0_clear 6 = .ok (.iconst 0, 1) := by decide +kernel
theorem dX0_clear_7 : decode cX0_clear 7 = .ok (.putfield 28, 3) := by decide +kernel
theorem dX0_clear_10 : decode cX0_clear 10 = .ok (.return_, 1) := by decide +kernel
theorem dX0_addClause_0 : decode cX0_addClause 0 = .ok (.aload_n 0, 1) := by decide +kernel
theorem dX0_addClause_1 : decode cX0_addClause 1 = .ok (.getfield 24, 3) := by decide +kernel
theorem dX0_addClause_4 : decode cX0_addClause 4 = .ok (.bipush 20, 2) := by decide +kernel
theorem dX0_addClause_6 : decode cX0_addClause 6 = .ok (.if_icmp .ge 46, 3) := by decide +kernel
theorem dX0_addClause_9 : decode cX0_addClause 9 = .ok (.aload_n 0, 1) := by decide +kernel
theorem dX0_addClause_10 : decode cX0_addClause 10 = .ok (.getfield 11, 3) := by decide +kernel
theorem dX0_addClause_13 : decode cX0_addClause 13 = .ok (.aload_n 0, 1) := by decide +kernel
theorem dX0_addClause_14 : decode cX0_addClause 14 = .ok (.getfield 24, 3) := by decide +kernel
theorem dX0_addClause_17 : decode cX0_addClause 17 = .ok (.iload_n 1, 1) := by decide +kernel
theorem dX0_addClause_18 : decode cX0_addClause 18 = .ok (.iastore, 1) := by decide +kernel
theorem dX0_addClause_19 : decode cX0_addClause 19 = .ok (.aload_n 0, 1) := by decide +kernel
theorem dX0_addClause_20 : decode cX0_addClause 20 = .ok (.getfield 15, 3) := by decide +kernel
theorem dX0_addClause_23 : decode cX0_addClause 23 = .ok (.aload_n 0, 1) := by decide +kernel
theorem dX0_addClause_24 : decode cX0_addClause 24 = .ok (.getfield 24, 3) := by decide +kernel
theorem dX0_addClause_27 : decode cX0_addClause 27 = .ok (.iconst (-1), 1) := by decide +kernel
theorem dX0_addClause_28 : decode cX0_addClause 28 = .ok (.iastore, 1) := by decide +kernel
theorem dX0_addClause_29 : decode cX0_addClause 29 = .ok (.aload_n 0, 1) := by decide +kernel
theorem dX0_addClause_30 : decode cX0_addClause 30 = .ok (.getfield 18, 3) := by decide +kernel
theorem dX0_addClause_33 : decode cX0_addClause 33 = .ok (.aload_n 0, 1) := by decide +kernel
theorem dX0_addClause_34 : decode cX0_addClause 34 = .ok (.getfield 24, 3) := by decide +kernel
theorem dX0_addClause_37 : decode cX0_addClause 37 = .ok (.aload_n 0, 1) := by decide +kernel
theorem dX0_addClause_38 : decode cX0_addClause 38 = .ok (.getfield 28, 3) := by decide +kernel
theorem dX0_addClause_41 : decode cX0_addClause 41 = .ok (.iastore, 1) := by decide +kernel
theorem dX0_addClause_42 : decode cX0_addClause 42 = .ok (.aload_n 0, 1) := by decide +kernel
theorem dX0_addClause_43 : decode cX0_addClause 43 = .ok (.dup, 1) := by decide +kernel
theorem dX0_addClause_44 : decode cX0_addClause 44 = .ok (.getfield 24, 3) := by decide +kernel
theorem dX0_addClause_47 : decode cX0_addClause 47 = .ok (.iconst 1, 1) := by decide +kernel
theorem dX0_addClause_48 : decode cX0_addClause 48 = .ok (.iadd, 1) := by decide +kernel
theorem dX0_addClause_49 : decode cX0_addClause 49 = .ok (.putfield 24, 3) := by decide +kernel
theorem dX0_addClause_52 : decode cX0_addClause 52 = .ok (.return_, 1) := by decide +kernel
theorem dX0_setOwner_0 : decode cX0_setOwner 0 = .ok (.aload_n 0, 1) := by decide +kernel
theorem dX0_setOwner_1 : decode cX0_setOwner 1 = .ok (.getfield 24, 3) := by decide +kernel
theorem dX0_setOwner_4 : decode cX0_setOwner 4 = .ok (.ifCond .le 15, 3) := by decide +kernel
theorem dX0_setOwner_7 : decode cX0_setOwner 7 = .ok (.aload_n 0, 1) := by decide +kernel
theorem dX0_setOwner_8 : decode cX0_setOwner 8 = .ok (.getfield 15, 3) := by decide +kernel
theorem dX0_setOwner_11 : decode cX0_setOwner 11 = .ok (.aload_n 0, 1) := by decide +kernel
theorem dX0_setOwner_12 : decode cX0_setOwner 12 = .ok (.getfield 24, 3) := by decide +kernel
theorem dX0_setOwner_15 : decode cX0_setOwner 15 = .ok (.iconst 1, 1) := by decide +kernel
theorem dX0_setOwner_16 : decode cX0_setOwner 16 = .ok (.isub, 1) := by decide +kernel
theorem dX0_setOwner_17 : decode cX0_setOwner 17 = .ok (.iload_n 1, 1) := by decide +kernel
theorem dX0_setOwner_18 : decode cX0_setOwner 18 = .ok (.iastore, 1) := by decide +kernel
theorem dX0_setOwner_19 : decode cX0_setOwner 19 = .ok (.return_, 1) := by decide +kernel
theorem dX0_add_0 : decode cX0_add 0 = .ok (.aload_n 0, 1) := by decide +kernel
theorem dX0_add_1 : decode cX0_add 1 = .ok (.getfield 28, 3) := by decide +kernel
theorem dX0_add_4 : decode cX0_add 4 = .ok (.sipush 300, 3) := by decide +kernel
theorem dX0_add_7 : decode cX0_add 7 = .ok (.if_icmp .ge 23, 3) := by decide +kernel
theorem dX0_add_10 : decode cX0_add 10 = .ok (.aload_n 0, 1) := by decide +kernel
theorem dX0_add_11 : decode cX0_add 11 = .ok (.getfield 21, 3) := by decide +kernel
theorem dX0_add_14 : decode cX0_add 14 = .ok (.aload_n 0, 1) := by decide +kernel
theorem dX0_add_15 : decode cX0_add 15 = .ok (.getfield 28, 3) := by decide +kernel
theorem dX0_add_18 : decode cX0_add 18 = .ok (.iload_n 1, 1) := by decide +kernel
theorem dX0_add_19 : decode cX0_add 19 = .ok (.iastore, 1) := by decide +kernel
theorem dX0_add_20 : decode cX0_add 20 = .ok (.aload_n 0, 1) := by decide +kernel
theorem dX0_add_21 : decode cX0_add 21 = .ok (.dup, 1) := by decide +kernel
theorem dX0_add_22 : decode cX0_add 22 = .ok (.getfield 28, 3) := by decide +kernel
theorem dX0_add_25 : decode cX0_add 25 = .ok (.iconst 1, 1) := by decide +kernel
theorem dX0_add_26 : decode cX0_add 26 = .ok (.iadd, 1) := by decide +kernel
theorem dX0_add_27 : decode cX0_add 27 = .ok (.putfield 28, 3) := by decide +kernel
theorem dX0_add_30 : decode cX0_add 30 = .ok (.return_, 1) := by decide +kernel
theorem dX0_first_0 : decode cX0_first 0 = .ok (.iconst 0, 1) := by decide +kernel
theorem dX0_first_1 : decode cX0_first 1 = .ok (.istore_n 2, 1) := by decide +kernel
theorem dX0_first_2 : decode cX0_first 2 = .ok (.iload_n 2, 1) := by decide +kernel
theorem dX0_first_3 : decode cX0_first 3 = .ok (.aload_n 0, 1) := by decide +kernel
theorem dX0_first_4 : decode cX0_first 4 = .ok (.getfield 24, 3) := by decide +kernel
theorem dX0_first_7 : decode cX0_first 7 = .ok (.if_icmp .ge 21, 3) := by decide +kernel
theorem dX0_first_10 : decode cX0_first 10 = .ok (.aload_n 0, 1) := by decide +kernel
theorem dX0_first_11 : decode cX0_first 11 = .ok (.getfield 11, 3) := by decide +kernel
theorem dX0_first_14 : decode cX0_first 14 = .ok (.iload_n 2, 1) := by decide +kernel
theorem dX0_first_15 : decode cX0_first 15 = .ok (.iaload, 1) := by decide +kernel
theorem dX0_first_16 : decode cX0_first 16 = .ok (.iload_n 1, 1) := by decide +kernel
theorem dX0_first_17 : decode cX0_first 17 = .ok (.if_icmp .ne 5, 3) := by decide +kernel
theorem dX0_first_20 : decode cX0_first 20 = .ok (.iload_n 2, 1) := by decide +kernel
theorem dX0_first_21 : decode cX0_first 21 = .ok (.ireturn, 1) := by decide +kernel
theorem dX0_first_22 : decode cX0_first 22 = .ok (.iinc 2 1, 3) := by decide +kernel
theorem dX0_first_25 : decode cX0_first 25 = .ok (.goto (-23), 3) := by decide +kernel
theorem dX0_first_28 : decode cX0_first 28 = .ok (.iconst (-1), 1) := by decide +kernel
theorem dX0_first_29 : decode cX0_first 29 = .ok (.ireturn, 1) := by decide +kernel
theorem dX0_value_0 : decode cX0_value 0 = .ok (.iload_n 1, 1) := by decide +kernel
theorem dX0_value_1 : decode cX0_value 1 = .ok (.ifCond .lt 11, 3) := by decide +kernel
theorem dX0_value_4 : decode cX0_value 4 = .ok (.iload_n 1, 1) := by decide +kernel
theorem dX0_value_5 : decode cX0_value 5 = .ok (.aload_n 0, 1) := by decide +kernel
theorem dX0_value_6 : decode cX0_value 6 = .ok (.getfield 24, 3) := by decide +kernel
theorem dX0_value_9 : decode cX0_value 9 = .ok (.if_icmp .lt 5, 3) := by decide +kernel
theorem dX0_value_12 : decode cX0_value 12 = .ok (.iconst 0, 1) := by decide +kernel
theorem dX0_value_13 : decode cX0_value 13 = .ok (.ireturn, 1) := by decide +kernel
theorem dX0_value_14 : decode cX0_value 14 = .ok (.iconst 0, 1) := by decide +kernel
theorem dX0_value_15 : decode cX0_value 15 = .ok (.istore 4, 2) := by decide +kernel
theorem dX0_value_17 : decode cX0_value 17 = .ok (.aload_n 0, 1) := by decide +kernel
theorem dX0_value_18 : decode cX0_value 18 = .ok (.getfield 18, 3) := by decide +kernel
theorem dX0_value_21 : decode cX0_value 21 = .ok (.iload_n 1, 1) := by decide +kernel
theorem dX0_value_22 : decode cX0_value 22 = .ok (.iaload, 1) := by decide +kernel
theorem dX0_value_23 : decode cX0_value 23 = .ok (.istore 5, 2) := by decide +kernel
theorem dX0_value_25 : decode cX0_value 25 = .ok (.iload 5, 2) := by decide +kernel
theorem dX0_value_27 : decode cX0_value 27 = .ok (.aload_n 0, 1) := by decide +kernel
theorem dX0_value_28 : decode cX0_value 28 = .ok (.getfield 28, 3) := by decide +kernel
theorem dX0_value_31 : decode cX0_value 31 = .ok (.if_icmp .ge 176, 3) := by decide +kernel
theorem dX0_value_34 : decode cX0_value 34 = .ok (.aload_n 0, 1) := by decide +kernel
theorem dX0_value_35 : decode cX0_value 35 = .ok (.getfield 21, 3) := by decide +kernel
theorem dX0_value_38 : decode cX0_value 38 = .ok (.iload 5, 2) := by decide +kernel
theorem dX0_value_40 : decode cX0_value 40 = .ok (.iaload, 1) := by decide +kernel
theorem dX0_value_41 : decode cX0_value 41 = .ok (.sipush 30000, 3) := by decide +kernel
theorem dX0_value_44 : decode cX0_value 44 = .ok (.if_icmp .eq 163, 3) := by decide +kernel
theorem dX0_value_47 : decode cX0_value 47 = .ok (.iload 4, 2) := by decide +kernel
theorem dX0_value_49 : decode cX0_value 49 = .ok (.aload_n 3, 1) := by decide +kernel
theorem dX0_value_50 : decode cX0_value 50 = .ok (.arraylength, 1) := by decide +kernel
theorem dX0_value_51 : decode cX0_value 51 = .ok (.if_icmp .ge 156, 3) := by decide +kernel
theorem dX0_value_54 : decode cX0_value 54 = .ok (.aload_n 0, 1) := by decide +kernel
theorem dX0_value_55 : decode cX0_value 55 = .ok (.getfield 21, 3) := by decide +kernel
theorem dX0_value_58 : decode cX0_value 58 = .ok (.iload 5, 2) := by decide +kernel
theorem dX0_value_60 : decode cX0_value 60 = .ok (.iaload, 1) := by decide +kernel
theorem dX0_value_61 : decode cX0_value 61 = .ok (.istore 6, 2) := by decide +kernel
theorem dX0_value_63 : decode cX0_value 63 = .ok (.iload 6, 2) := by decide +kernel
theorem dX0_value_65 : decode cX0_value 65 = .ok (.sipush 10000, 3) := by decide +kernel
theorem dX0_value_68 : decode cX0_value 68 = .ok (.if_icmp .ge 15, 3) := by decide +kernel
theorem dX0_value_71 : decode cX0_value 71 = .ok (.aload_n 3, 1) := by decide +kernel
theorem dX0_value_72 : decode cX0_value 72 = .ok (.iload 4, 2) := by decide +kernel
theorem dX0_value_74 : decode cX0_value 74 = .ok (.iload 6, 2) := by decide +kernel
theorem dX0_value_76 : decode cX0_value 76 = .ok (.iastore, 1) := by decide +kernel
theorem dX0_value_77 : decode cX0_value 77 = .ok (.iinc 4 1, 3) := by decide +kernel
theorem dX0_value_80 : decode cX0_value 80 = .ok (.goto 121, 3) := by decide +kernel
theorem dX0_value_83 : decode cX0_value 83 = .ok (.iload 6, 2) := by decide +kernel
theorem dX0_value_85 : decode cX0_value 85 = .ok (.sipush 20000, 3) := by decide +kernel
theorem dX0_value_88 : decode cX0_value 88 = .ok (.if_icmp .ge 21, 3) := by decide +kernel
theorem dX0_value_91 : decode cX0_value 91 = .ok (.aload_n 3, 1) := by decide +kernel
theorem dX0_value_92 : decode cX0_value 92 = .ok (.iload 4, 2) := by decide +kernel
theorem dX0_value_94 : decode cX0_value 94 = .ok (.aload_n 2, 1) := by decide +kernel
theorem dX0_value_95 : decode cX0_value 95 = .ok (.iload 6, 2) := by decide +kernel
theorem dX0_value_97 : decode cX0_value 97 = .ok (.sipush 10000, 3) := by decide +kernel
theorem dX0_value_100 : decode cX0_value 100 = .ok (.isub, 1) := by decide +kernel
theorem dX0_value_101 : decode cX0_value 101 = .ok (.iaload, 1) := by decide +kernel
theorem dX0_value_102 : decode cX0_value 102 = .ok (.iastore, 1) := by decide +kernel
theorem dX0_value_103 : decode cX0_value 103 = .ok (.iinc 4 1, 3) := by decide +kernel
theorem dX0_value_106 : decode cX0_value 106 = .ok (.goto 95, 3) := by decide +kernel
theorem dX0_value_109 : decode cX0_value 109 = .ok (.iload 6, 2) := by decide +kernel
theorem dX0_value_111 : decode cX0_value 111 = .ok (.ldc 31, 2) := by decide +kernel
theorem dX0_value_113 : decode cX0_value 113 = .ok (.if_icmp .ne 24, 3) := by decide +kernel
theorem dX0_value_116 : decode cX0_value 116 = .ok (.iload 4, 2) := by decide +kernel
theorem dX0_value_118 : decode cX0_value 118 = .ok (.ifCond .le 19, 3) := by decide +kernel
theorem dX0_value_121 : decode cX0_value 121 = .ok (.aload_n 3, 1) := by decide +kernel
theorem dX0_value_122 : decode cX0_value 122 = .ok (.iload 4, 2) := by decide +kernel
theorem dX0_value_124 : decode cX0_value 124 = .ok (.iconst 1, 1) := by decide +kernel
theorem dX0_value_125 : decode cX0_value 125 = .ok (.isub, 1) := by decide +kernel
theorem dX0_value_126 : decode cX0_value 126 = .ok (.aload_n 3, 1) := by decide +kernel
theorem dX0_value_127 : decode cX0_value 127 = .ok (.iload 4, 2) := by decide +kernel
theorem dX0_value_129 : decode cX0_value 129 = .ok (.iconst 1, 1) := by decide +kernel
theorem dX0_value_130 : decode cX0_value 130 = .ok (.isub, 1) := by decide +kernel
theorem dX0_value_131 : decode cX0_value 131 = .ok (.iaload, 1) := by decide +kernel
theorem dX0_value_132 : decode cX0_value 132 = .ok (.ineg, 1) := by decide +kernel
theorem dX0_value_133 : decode cX0_value 133 = .ok (.iastore, 1) := by decide +kernel
theorem dX0_value_134 : decode cX0_value 134 = .ok (.goto 67, 3) := by decide +kernel
theorem dX0_value_137 : decode cX0_value 137 = .ok (.iload 6, 2) := by decide +kernel
theorem dX0_value_139 : decode cX0_value 139 = .ok (.sipush 20206, 3) := by decide +kernel
theorem dX0_value_142 : decode cX0_value 142 = .ok (.if_icmp .ne 25, 3) := by decide +kernel
theorem dX0_value_145 : decode cX0_value 145 = .ok (.iload 4, 2) := by decide +kernel
theorem dX0_value_147 : decode cX0_value 147 = .ok (.ifCond .le 20, 3) := by decide +kernel
theorem dX0_value_150 : decode cX0_value 150 = .ok (.aload_n 3, 1) := by decide +kernel
theorem dX0_value_151 : decode cX0_value 151 = .ok (.iload 4, 2) := by decide +kernel
theorem dX0_value_153 : decode cX0_value 153 = .ok (.iconst 1, 1) := by decide +kernel
theorem dX0_value_154 : decode cX0_value 154 = .ok (.isub, 1) := by decide +kernel
theorem dX0_value_155 : decode cX0_value 155 = .ok (.iconst 1, 1) := by decide +kernel
theorem dX0_value_156 : decode cX0_value 156 = .ok (.aload_n 3, 1) := by decide +kernel
theorem dX0_value_157 : decode cX0_value 157 = .ok (.iload 4, 2) := by decide +kernel
theorem dX0_value_159 : decode cX0_value 159 = .ok (.iconst 1, 1) := by decide +kernel
theorem dX0_value_160 : decode cX0_value 160 = .ok (.isub, 1) := by decide +kernel
theorem dX0_value_161 : decode cX0_value 161 = .ok (.iaload, 1) := by decide +kernel
theorem dX0_value_162 : decode cX0_value 162 = .ok (.isub, 1) := by decide +kernel
theorem dX0_value_163 : decode cX0_value 163 = .ok (.iastore, 1) := by decide +kernel
theorem dX0_value_164 : decode cX0_value 164 = .ok (.goto 37, 3) := by decide +kernel
theorem dX0_value_167 : decode cX0_value 167 = .ok (.iload 4, 2) := by decide +kernel
theorem dX0_value_169 : decode cX0_value 169 = .ok (.iconst 1, 1) := by decide +kernel
theorem dX0_value_170 : decode cX0_value 170 = .ok (.if_icmp .le 31, 3) := by decide +kernel
theorem dX0_value_173 : decode cX0_value 173 = .ok (.iinc 4 (-1), 3) := by decide +kernel
theorem dX0_value_176 : decode cX0_value 176 = .ok (.aload_n 3, 1) := by decide +kernel
theorem dX0_value_177 : decode cX0_value 177 = .ok (.iload 4, 2) := by decide +kernel
theorem dX0_value_179 : decode cX0_value 179 = .ok (.iconst 1, 1) := by decide +kernel
theorem dX0_value_180 : decode cX0_value 180 = .ok (.isub, 1) := by decide +kernel
theorem dX0_value_181 : decode cX0_value 181 = .ok (.iload 6, 2) := by decide +kernel
theorem dX0_value_183 : decode cX0_value 183 = .ok (.sipush 20000, 3) := by decide +kernel
theorem dX0_value_186 : decode cX0_value 186 = .ok (.isub, 1) := by decide +kernel
theorem dX0_value_187 : decode cX0_value 187 = .ok (.aload_n 3, 1) := by decide +kernel
theorem dX0_value_188 : decode cX0_value 188 = .ok (.iload 4, 2) := by decide +kernel
theorem dX0_value_190 : decode cX0_value 190 = .ok (.iconst 1, 1) := by decide +kernel
theorem dX0_value_191 : decode cX0_value 191 = .ok (.isub, 1) := by decide +kernel
theorem dX0_value_192 : decode cX0_value 192 = .ok (.iaload, 1) := by decide +kernel
theorem dX0_value_193 : decode cX0_value 193 = .ok (.aload_n 3, 1) := by decide +kernel
theorem dX0_value_194 : decode cX0_value 194 = .ok (.iload 4, 2) := by decide +kernel
theorem dX0_value_196 : decode cX0_value 196 = .ok (.iaload, 1) := by decide +kernel
theorem dX0_value_197 : decode cX0_value 197 = .ok (.invokestatic 34, 3) := by decide +kernel
theorem dX0_value_200 : decode cX0_value 200 = .ok (.iastore, 1) := by decide +kernel
theorem dX0_value_201 : decode cX0_value 201 = .ok (.iinc 5 1, 3) := by decide +kernel
theorem dX0_value_204 : decode cX0_value 204 = .ok (.goto (-179), 3) := by decide +kernel
theorem dX0_value_207 : decode cX0_value 207 = .ok (.iload 4, 2) := by decide +kernel
theorem dX0_value_209 : decode cX0_value 209 = .ok (.ifCond .le 12, 3) := by decide +kernel
theorem dX0_value_212 : decode cX0_value 212 = .ok (.aload_n 3, 1) := by decide +kernel
theorem dX0_value_213 : decode cX0_value 213 = .ok (.iload 4, 2) := by decide +kernel
theorem dX0_value_215 : decode cX0_value 215 = .ok (.iconst 1, 1) := by decide +kernel
theorem dX0_value_216 : decode cX0_value 216 = .ok (.isub, 1) := by decide +kernel
theorem dX0_value_217 : decode cX0_value 217 = .ok (.iaload, 1) := by decide +kernel
theorem dX0_value_218 : decode cX0_value 218 = .ok (.goto 4, 3) := by decide +kernel
theorem dX0_value_221 : decode cX0_value 221 = .ok (.iconst 0, 1) := by decide +kernel
theorem dX0_value_222 : decode cX0_value 222 = .ok (.ireturn, 1) := by decide +kernel
theorem dX0_joined_0 : decode cX0_joined 0 = .ok (.iload_n 0, 1) := by decide +kernel
theorem dX0_joined_1 : decode cX0_joined 1 = .ok (.lookupswitch 111 #[(42, 77), (43, 59), (45, 68), (47, 86), (204, 103), (205, 107)], 59) := by decide +kernel
theorem dX0_joined_60 : decode cX0_joined 60 = .ok (.iload_n 1, 1) := by decide +kernel
theorem dX0_joined_61 : decode cX0_joined 61 = .ok (.i2l, 1) := by decide +kernel
theorem dX0_joined_62 : decode cX0_joined 62 = .ok (.iload_n 2, 1) := by decide +kernel
theorem dX0_joined_63 : decode cX0_joined 63 = .ok (.i2l, 1) := by decide +kernel
theorem dX0_joined_64 : decode cX0_joined 64 = .ok (.ladd, 1) := by decide +kernel
theorem dX0_joined_65 : decode cX0_joined 65 = .ok (.invokestatic 38, 3) := by decide +kernel
theorem dX0_joined_68 : decode cX0_joined 68 = .ok (.ireturn, 1) := by decide +kernel
theorem dX0_joined_69 : decode cX0_joined 69 = .ok (.iload_n 1, 1) := by decide +kernel
theorem dX0_joined_70 : decode cX0_joined 70 = .ok (.i2l, 1) := by decide +kernel
theorem dX0_joined_71 : decode cX0_joined 71 = .ok (.iload_n 2, 1) := by decide +kernel
theorem dX0_joined_72 : decode cX0_joined 72 = .ok (.i2l, 1) := by decide +kernel
theorem dX0_joined_73 : decode cX0_joined 73 = .ok (.lsub, 1) := by decide +kernel
theorem dX0_joined_74 : decode cX0_joined 74 = .ok (.invokestatic 38, 3) := by decide +kernel
theorem dX0_joined_77 : decode cX0_joined 77 = .ok (.ireturn, 1) := by decide +kernel
theorem dX0_joined_78 : decode cX0_joined 78 = .ok (.iload_n 1, 1) := by decide +kernel
theorem dX0_joined_79 : decode cX0_joined 79 = .ok (.i2l, 1) := by decide +kernel
theorem dX0_joined_80 : decode cX0_joined 80 = .ok (.iload_n 2, 1) := by decide +kernel
theorem dX0_joined_81 : decode cX0_joined 81 = .ok (.i2l, 1) := by decide +kernel
theorem dX0_joined_82 : decode cX0_joined 82 = .ok (.lmul, 1) := by decide +kernel
theorem dX0_joined_83 : decode cX0_joined 83 = .ok (.invokestatic 38, 3) := by decide +kernel
theorem dX0_joined_86 : decode cX0_joined 86 = .ok (.ireturn, 1) := by decide +kernel
theorem dX0_joined_87 : decode cX0_joined 87 = .ok (.iload_n 2, 1) := by decide +kernel
theorem dX0_joined_88 : decode cX0_joined 88 = .ok (.ifCond .ne 7, 3) := by decide +kernel
theorem dX0_joined_91 : decode cX0_joined 91 = .ok (.iconst 0, 1) := by decide +kernel
theorem dX0_joined_92 : decode cX0_joined 92 = .ok (.goto 11, 3) := by decide +kernel
theorem dX0_joined_95 : decode cX0_joined 95 = .ok (.iload_n 1, 1) := by decide +kernel
theorem dX0_joined_96 : decode cX0_joined 96 = .ok (.i2l, 1) := by decide +kernel
theorem dX0_joined_97 : decode cX0_joined 97 = .ok (.iload_n 2, 1) := by decide +kernel
theorem dX0_joined_98 : decode cX0_joined 98 = .ok (.i2l, 1) := by decide +kernel
theorem dX0_joined_99 : decode cX0_joined 99 = .ok (.ldiv, 1) := by decide +kernel
theorem dX0_joined_100 : decode cX0_joined 100 = .ok (.invokestatic 38, 3) := by decide +kernel
theorem dX0_joined_103 : decode cX0_joined 103 = .ok (.ireturn, 1) := by decide +kernel
theorem dX0_joined_104 : decode cX0_joined 104 = .ok (.iload_n 1, 1) := by decide +kernel
theorem dX0_joined_105 : decode cX0_joined 105 = .ok (.iload_n 2, 1) := by decide +kernel
theorem dX0_joined_106 : decode cX0_joined 106 = .ok (.ior, 1) := by decide +kernel
theorem dX0_joined_107 : decode cX0_joined 107 = .ok (.ireturn, 1) := by decide +kernel
theorem dX0_joined_108 : decode cX0_joined 108 = .ok (.iload_n 1, 1) := by decide +kernel
theorem dX0_joined_109 : decode cX0_joined 109 = .ok (.iload_n 2, 1) := by decide +kernel
theorem dX0_joined_110 : decode cX0_joined 110 = .ok (.iand, 1) := by decide +kernel
theorem dX0_joined_111 : decode cX0_joined 111 = .ok (.ireturn, 1) := by decide +kernel
theorem dX0_joined_112 : decode cX0_joined 112 = .ok (.iload_n 0, 1) := by decide +kernel
theorem dX0_joined_113 : decode cX0_joined 113 = .ok (.iload_n 1, 1) := by decide +kernel
theorem dX0_joined_114 : decode cX0_joined 114 = .ok (.iload_n 2, 1) := by decide +kernel
theorem dX0_joined_115 : decode cX0_joined 115 = .ok (.invokestatic 42, 3) := by decide +kernel
theorem dX0_joined_118 : decode cX0_joined 118 = .ok (.ifCond .eq 7, 3) := by decide +kernel
theorem dX0_joined_121 : decode cX0_joined 121 = .ok (.iconst 1, 1) := by decide +kernel
theorem dX0_joined_122 : decode cX0_joined 122 = .ok (.goto 4, 3) := by decide +kernel
theorem dX0_joined_125 : decode cX0_joined 125 = .ok (.iconst 0, 1) := by decide +kernel
theorem dX0_joined_126 : decode cX0_joined 126 = .ok (.ireturn, 1) := by decide +kernel
theorem dX0_isSo_0 : decode cX0_isSo 0 = .ok (.iload_n 0, 1) := by decide +kernel
theorem dX0_isSo_1 : decode cX0_isSo 1 = .ok (.lookupswitch 106 #[(2, 95), (35, 84), (60, 51), (61, 73), (62, 62)], 51) := by decide +kernel
theorem dX0_isSo_52 : decode cX0_isSo 52 = .ok (.iload_n 1, 1) := by decide +kernel
theorem dX0_isSo_53 : decode cX0_isSo 53 = .ok (.iload_n 2, 1) := by decide +kernel
theorem dX0_isSo_54 : decode cX0_isSo 54 = .ok (.if_icmp .ge 7, 3) := by decide +kernel
theorem dX0_isSo_57 : decode cX0_isSo 57 = .ok (.iconst 1, 1) := by decide +kernel
theorem dX0_isSo_58 : decode cX0_isSo 58 = .ok (.goto 4, 3) := by decide +kernel
theorem dX0_isSo_61 : decode cX0_isSo 61 = .ok (.iconst 0, 1) := by decide +kernel
theorem dX0_isSo_62 : decode cX0_isSo 62 = .ok (.ireturn, 1) := by decide +kernel
theorem dX0_isSo_63 : decode cX0_isSo 63 = .ok (.iload_n 1, 1) := by decide +kernel
theorem dX0_isSo_64 : decode cX0_isSo 64 = .ok (.iload_n 2, 1) := by decide +kernel
theorem dX0_isSo_65 : decode cX0_isSo 65 = .ok (.if_icmp .le 7, 3) := by decide +kernel
theorem dX0_isSo_68 : decode cX0_isSo 68 = .ok (.iconst 1, 1) := by decide +kernel
theorem dX0_isSo_69 : decode cX0_isSo 69 = .ok (.goto 4, 3) := by decide +kernel
theorem dX0_isSo_72 : decode cX0_isSo 72 = .ok (.iconst 0, 1) := by decide +kernel
theorem dX0_isSo_73 : decode cX0_isSo 73 = .ok (.ireturn, 1) := by decide +kernel
theorem dX0_isSo_74 : decode cX0_isSo 74 = .ok (.iload_n 1, 1) := by decide +kernel
theorem dX0_isSo_75 : decode cX0_isSo 75 = .ok (.iload_n 2, 1) := by decide +kernel
theorem dX0_isSo_76 : decode cX0_isSo 76 = .ok (.if_icmp .ne 7, 3) := by decide +kernel
theorem dX0_isSo_79 : decode cX0_isSo 79 = .ok (.iconst 1, 1) := by decide +kernel
theorem dX0_isSo_80 : decode cX0_isSo 80 = .ok (.goto 4, 3) := by decide +kernel
theorem dX0_isSo_83 : decode cX0_isSo 83 = .ok (.iconst 0, 1) := by decide +kernel
theorem dX0_isSo_84 : decode cX0_isSo 84 = .ok (.ireturn, 1) := by decide +kernel
theorem dX0_isSo_85 : decode cX0_isSo 85 = .ok (.iload_n 1, 1) := by decide +kernel
theorem dX0_isSo_86 : decode cX0_isSo 86 = .ok (.iload_n 2, 1) := by decide +kernel
theorem dX0_isSo_87 : decode cX0_isSo 87 = .ok (.if_icmp .eq 7, 3) := by decide +kernel
theorem dX0_isSo_90 : decode cX0_isSo 90 = .ok (.iconst 1, 1) := by decide +kernel
theorem dX0_isSo_91 : decode cX0_isSo 91 = .ok (.goto 4, 3) := by decide +kernel
theorem dX0_isSo_94 : decode cX0_isSo 94 = .ok (.iconst 0, 1) := by decide +kernel
theorem dX0_isSo_95 : decode cX0_isSo 95 = .ok (.ireturn, 1) := by decide +kernel
theorem dX0_isSo_96 : decode cX0_isSo 96 = .ok (.iload_n 1, 1) := by decide +kernel
theorem dX0_isSo_97 : decode cX0_isSo 97 = .ok (.iload_n 2, 1) := by decide +kernel
theorem dX0_isSo_98 : decode cX0_isSo 98 = .ok (.if_icmp .gt 7, 3) := by decide +kernel
theorem dX0_isSo_101 : decode cX0_isSo 101 = .ok (.iconst 1, 1) := by decide +kernel
theorem dX0_isSo_102 : decode cX0_isSo 102 = .ok (.goto 4, 3) := by decide +kernel
theorem dX0_isSo_105 : decode cX0_isSo 105 = .ok (.iconst 0, 1) := by decide +kernel
theorem dX0_isSo_106 : decode cX0_isSo 106 = .ok (.ireturn, 1) := by decide +kernel
theorem dX0_isSo_107 : decode cX0_isSo 107 = .ok (.iload_n 1, 1) := by decide +kernel
theorem dX0_isSo_108 : decode cX0_isSo 108 = .ok (.iload_n 2, 1) := by decide +kernel
theorem dX0_isSo_109 : decode cX0_isSo 109 = .ok (.if_icmp .lt 7, 3) := by decide +kernel
theorem dX0_isSo_112 : decode cX0_isSo 112 = .ok (.iconst 1, 1) := by decide +kernel
theorem dX0_isSo_113 : decode cX0_isSo 113 = .ok (.goto 4, 3) := by decide +kernel
theorem dX0_isSo_116 : decode cX0_isSo 116 = .ok (.iconst 0, 1) := by decide +kernel
theorem dX0_isSo_117 : decode cX0_isSo 117 = .ok (.ireturn, 1) := by decide +kernel
theorem dX0_limited_0 : decode cX0_limited 0 = .ok (.ldc2_w 46, 3) := by decide +kernel
theorem dX0_limited_3 : decode cX0_limited 3 = .ok (.ldc2_w 48, 3) := by decide +kernel
theorem dX0_limited_6 : decode cX0_limited 6 = .ok (.lload_n 0, 1) := by decide +kernel
theorem dX0_limited_7 : decode cX0_limited 7 = .ok (.invokestatic 50, 3) := by decide +kernel
theorem dX0_limited_10 : decode cX0_limited 10 = .ok (.invokestatic 56, 3) := by decide +kernel
theorem dX0_limited_13 : decode cX0_limited 13 = .ok (.l2i, 1) := by decide +kernel
theorem dX0_limited_14 : decode cX0_limited 14 = .ok (.ireturn, 1) := by decide +kernel
theorem dX1_init_0 : decode cX1_init 0 = .ok (.aload_n 0, 1) := by decide +kernel
theorem dX1_init_1 : decode cX1_init 1 = .ok (.invokespecial 3, 3) := by decide +kernel
theorem dX1_init_4 : decode cX1_init 4 = .ok (.aload_n 0, 1) := by decide +kernel
theorem dX1_init_5 : decode cX1_init 5 = .ok (.iconst (-1), 1) := by decide +kernel
theorem dX1_init_6 : decode cX1_init 6 = .ok (.putfield 9, 3) := by decide +kernel
theorem dX1_init_9 : decode cX1_init 9 = .ok (.aload_n 0, 1) := by decide +kernel
theorem dX1_init_10 : decode cX1_init 10 = .ok (.iconst (-1), 1) := by decide +kernel
theorem dX1_init_11 : decode cX1_init 11 = .ok (.putfield 15, 3) := by decide +kernel
theorem dX1_init_14 : decode cX1_init 14 = .ok (.aload_n 0, 1) := by decide +kernel
theorem dX1_init_15 : decode cX1_init 15 = .ok (.bipush 64, 2) := by decide +kernel
theorem dX1_init_17 : decode cX1_init 17 = .ok (.newarray .int, 2) := by decide +kernel
theorem dX1_init_19 : decode cX1_init 19 = .ok (.putfield 18, 3) := by decide +kernel
theorem dX1_init_22 : decode cX1_init 22 = .ok (.aload_n 0, 1) := by decide +kernel
theorem dX1_init_23 : decode cX1_init 23 = .ok (.bipush 64, 2) := by decide +kernel
theorem dX1_init_25 : decode cX1_init 25 = .ok (.newarray .int, 2) := by decide +kernel
theorem dX1_init_27 : decode cX1_init 27 = .ok (.putfield 22, 3) := by decide +kernel
theorem dX1_init_30 : decode cX1_init 30 = .ok (.aload_n 0, 1) := by decide +kernel
theorem dX1_init_31 : decode cX1_init 31 = .ok (.bipush 100, 2) := by decide +kernel
theorem dX1_init_33 : decode cX1_init 33 = .ok (.newarray .long, 2) := by decide +kernel
theorem dX1_init_35 : decode cX1_init 35 = .ok (.putfield 25, 3) := by decide +kernel
theorem dX1_init_38 : decode cX1_init 38 = .ok (.aload_n 0, 1) := by decide +kernel
theorem dX1_init_39 : decode cX1_init 39 = .ok (.bipush 100, 2) := by decide +kernel
theorem dX1_init_41 : decode cX1_init 41 = .ok (.newarray .long, 2) := by decide +kernel
theorem dX1_init_43 : decode cX1_init 43 = .ok (.putfield 29, 3) := by decide +kernel
theorem dX1_init_46 : decode cX1_init 46 = .ok (.aload_n 0, 1) := by decide +kernel
theorem dX1_init_47 : decode cX1_init 47 = .ok (.bipush 100, 2) := by decide +kernel
theorem dX1_init_49 : decode cX1_init 49 = .ok (.newarray .long, 2) := by decide +kernel
theorem dX1_init_51 : decode cX1_init 51 = .ok (.putfield 32, 3) := by decide +kernel
theorem dX1_init_54 : decode cX1_init 54 = .ok (.return_, 1) := by decide +kernel
theorem dX1_tell_0 : decode cX1_tell 0 = .ok (.aload_n 0, 1) := by decide +kernel
theorem dX1_tell_1 : decode cX1_tell 1 = .ok (.iload_n 1, 1) := by decide +kernel
theorem dX1_tell_2 : decode cX1_tell 2 = .ok (.putfield 35, 3) := by decide +kernel
theorem dX1_tell_5 : decode cX1_tell 5 = .ok (.aload_n 0, 1) := by decide +kernel
theorem dX1_tell_6 : decode cX1_tell 6 = .ok (.iload_n 2, 1) := by decide +kernel
theorem dX1_tell_7 : decode cX1_tell 7 = .ok (.putfield 38, 3) := by decide +kernel
theorem dX1_tell_10 : decode cX1_tell 10 = .ok (.aload_n 0, 1) := by decide +kernel
theorem dX1_tell_11 : decode cX1_tell 11 = .ok (.iconst 0, 1) := by decide +kernel
theorem dX1_tell_12 : decode cX1_tell 12 = .ok (.invokevirtual 41, 3) := by decide +kernel
theorem dX1_tell_15 : decode cX1_tell 15 = .ok (.return_, 1) := by decide +kernel
theorem dX1_forgetFrom_0 : decode cX1_forgetFrom 0 = .ok (.aload_n 0, 1) := by decide +kernel
theorem dX1_forgetFrom_1 : decode cX1_forgetFrom 1 = .ok (.aload_n 0, 1) := by decide +kernel
theorem dX1_forgetFrom_2 : decode cX1_forgetFrom 2 = .ok (.getfield 45, 3) := by decide +kernel
theorem dX1_forgetFrom_5 : decode cX1_forgetFrom 5 = .ok (.iload_n 1, 1) := by decide +kernel
theorem dX1_forgetFrom_6 : decode cX1_forgetFrom 6 = .ok (.invokestatic 48, 3) := by decide +kernel
theorem dX1_forgetFrom_9 : decode cX1_forgetFrom 9 = .ok (.putfield 45, 3) := by decide +kernel
theorem dX1_forgetFrom_12 : decode cX1_forgetFrom 12 = .ok (.aload_n 0, 1) := by decide +kernel
theorem dX1_forgetFrom_13 : decode cX1_forgetFrom 13 = .ok (.getfield 15, 3) := by decide +kernel
theorem dX1_forgetFrom_16 : decode cX1_forgetFrom 16 = .ok (.iload_n 1, 1) := by decide +kernel
theorem dX1_forgetFrom_17 : decode cX1_forgetFrom 17 = .ok (.if_icmp .lt 8, 3) := by decide +kernel
theorem dX1_forgetFrom_20 : decode cX1_forgetFrom 20 = .ok (.aload_n 0, 1) := by decide +kernel
theorem dX1_forgetFrom_21 : decode cX1_forgetFrom 21 = .ok (.iconst (-1), 1) := by decide +kernel
theorem dX1_forgetFrom_22 : decode cX1_forgetFrom 22 = .ok (.putfield 15, 3) := by decide +kernel
theorem dX1_forgetFrom_25 : decode cX1_forgetFrom 25 = .ok (.return_, 1) := by decide +kernel
theorem dX1_standAs_0 : decode cX1_standAs 0 = .ok (.aload_n 0, 1) := by decide +kernel
theorem dX1_standAs_1 : decode cX1_standAs 1 = .ok (.aload_n 1, 1) := by decide +kernel
theorem dX1_standAs_2 : decode cX1_standAs 2 = .ok (.getfield 35, 3) := by decide +kernel
theorem dX1_standAs_5 : decode cX1_standAs 5 = .ok (.putfield 35, 3) := by decide +kernel
theorem dX1_standAs_8 : decode cX1_standAs 8 = .ok (.aload_n 0, 1) := by decide +kernel
theorem dX1_standAs_9 : decode cX1_standAs 9 = .ok (.aload_n 1, 1) := by decide +kernel
theorem dX1_standAs_10 : decode cX1_standAs 10 = .ok (.getfield 38, 3) := by decide +kernel
theorem dX1_standAs_13 : decode cX1_standAs 13 = .ok (.putfield 38, 3) := by decide +kernel
theorem dX1_standAs_16 : decode cX1_standAs 16 = .ok (.aload_n 0, 1) := by decide +kernel
theorem dX1_standAs_17 : decode cX1_standAs 17 = .ok (.aload_n 1, 1) := by decide +kernel
theorem dX1_standAs_18 : decode cX1_standAs 18 = .ok (.getfield 15, 3) := by decide +kernel
theorem dX1_standAs_21 : decode cX1_standAs 21 = .ok (.putfield 15, 3) := by decide +kernel
theorem dX1_standAs_24 : decode cX1_standAs 24 = .ok (.aload_n 0, 1) := by decide +kernel
theorem dX1_standAs_25 : decode cX1_standAs 25 = .ok (.iconst 0, 1) := by decide +kernel
theorem dX1_standAs_26 : decode cX1_standAs 26 = .ok (.putfield 45, 3) := by decide +kernel
theorem dX1_standAs_29 : decode cX1_standAs 29 = .ok (.aload_n 0, 1) := by decide +kernel
theorem dX1_standAs_30 : decode cX1_standAs 30 = .ok (.aload_n 1, 1) := by decide +kernel
theorem dX1_standAs_31 : decode cX1_standAs 31 = .ok (.getfield 54, 3) := by decide +kernel
theorem dX1_standAs_34 : decode cX1_standAs 34 = .ok (.putfield 54, 3) := by decide +kernel
theorem dX1_standAs_37 : decode cX1_standAs 37 = .ok (.aload_n 0, 1) := by decide +kernel
theorem dX1_standAs_38 : decode cX1_standAs 38 = .ok (.aload_n 1, 1) := by decide +kernel
theorem dX1_standAs_39 : decode cX1_standAs 39 = .ok (.getfield 58, 3) := by decide +kernel
theorem dX1_standAs_42 : decode cX1_standAs 42 = .ok (.putfield 58, 3) := by decide +kernel
theorem dX1_standAs_45 : decode cX1_standAs 45 = .ok (.aload_n 0, 1) := by decide +kernel
theorem dX1_standAs_46 : decode cX1_standAs 46 = .ok (.aload_n 1, 1) := by decide +kernel
theorem dX1_standAs_47 : decode cX1_standAs 47 = .ok (.getfield 61, 3) := by decide +kernel
theorem dX1_standAs_50 : decode cX1_standAs 50 = .ok (.putfield 61, 3) := by decide +kernel
theorem dX1_standAs_53 : decode cX1_standAs 53 = .ok (.aload_n 0, 1) := by decide +kernel
theorem dX1_standAs_54 : decode cX1_standAs 54 = .ok (.aload_n 1, 1) := by decide +kernel
theorem dX1_standAs_55 : decode cX1_standAs 55 = .ok (.getfield 64, 3) := by decide +kernel
theorem dX1_standAs_58 : decode cX1_standAs 58 = .ok (.putfield 64, 3) := by decide +kernel
theorem dX1_standAs_61 : decode cX1_standAs 61 = .ok (.aload_n 1, 1) := by decide +kernel
theorem dX1_standAs_62 : decode cX1_standAs 62 = .ok (.getfield 18, 3) := by decide +kernel
theorem dX1_standAs_65 : decode cX1_standAs 65 = .ok (.iconst 0, 1) := by decide +kernel
theorem dX1_standAs_66 : decode cX1_standAs 66 = .ok (.aload_n 0, 1) := by decide +kernel
theorem dX1_standAs_67 : decode cX1_standAs 67 = .ok (.getfield 18, 3) := by decide +kernel
theorem dX1_standAs_70 : decode cX1_standAs 70 = .ok (.iconst 0, 1) := by decide +kernel
theorem dX1_standAs_71 : decode cX1_standAs 71 = .ok (.bipush 64, 2) := by decide +kernel
theorem dX1_standAs_73 : decode cX1_standAs 73 = .ok (.invokestatic 67, 3) := by decide +kernel
theorem dX1_standAs_76 : decode cX1_standAs 76 = .ok (.aload_n 1, 1) := by decide +kernel
theorem dX1_standAs_77 : decode cX1_standAs 77 = .ok (.getfield 22, 3) := by decide +kernel
theorem dX1_standAs_80 : decode cX1_standAs 80 = .ok (.iconst 0, 1) := by decide +kernel
theorem dX1_standAs_81 : decode cX1_standAs 81 = .ok (.aload_n 0, 1) := by decide +kernel
theorem dX1_standAs_82 : decode cX1_standAs 82 = .ok (.getfield 22, 3) := by decide +kernel
theorem dX1_standAs_85 : decode cX1_standAs 85 = .ok (.iconst 0, 1) := by decide +kernel
theorem dX1_standAs_86 : decode cX1_standAs 86 = .ok (.bipush 64, 2) := by decide +kernel
theorem dX1_standAs_88 : decode cX1_standAs 88 = .ok (.invokestatic 67, 3) := by decide +kernel
theorem dX1_standAs_91 : decode cX1_standAs 91 = .ok (.aload_n 0, 1) := by decide +kernel
theorem dX1_standAs_92 : decode cX1_standAs 92 = .ok (.getfield 15, 3) := by decide +kernel
theorem dX1_standAs_95 : decode cX1_standAs 95 = .ok (.ifCond .lt 7, 3) := by decide +kernel
theorem dX1_standAs_98 : decode cX1_standAs 98 = .ok (.aload_n 0, 1) := by decide +kernel
theorem dX1_standAs_99 : decode cX1_standAs 99 = .ok (.invokevirtual 73, 3) := by decide +kernel
theorem dX1_standAs_102 : decode cX1_standAs 102 = .ok (.return_, 1) := by decide +kernel
theorem dX1_lookAt_0 : decode cX1_lookAt 0 = .ok (.aload_n 0, 1) := by decide +kernel
theorem dX1_lookAt_1 : decode cX1_lookAt 1 = .ok (.getfield 45, 3) := by decide +kernel
theorem dX1_lookAt_4 : decode cX1_lookAt 4 = .ok (.iload_n 2, 1) := by decide +kernel
theorem dX1_lookAt_5 : decode cX1_lookAt 5 = .ok (.if_icmp .gt 9, 3) := by decide +kernel
theorem dX1_lookAt_8 : decode cX1_lookAt 8 = .ok (.aload_n 0, 1) := by decide +kernel
theorem dX1_lookAt_9 : decode cX1_lookAt 9 = .ok (.aload_n 1, 1) := by decide +kernel
theorem dX1_lookAt_10 : decode cX1_lookAt 10 = .ok (.iload_n 2, 1) := by decide +kernel
theorem dX1_lookAt_11 : decode cX1_lookAt 11 = .ok (.invokevirtual 76, 3) := by decide +kernel
theorem dX1_lookAt_14 : decode cX1_lookAt 14 = .ok (.return_, 1) := by decide +kernel
theorem dX1_standAt_0 : decode cX1_standAt 0 = .ok (.aload_n 0, 1) := by decide +kernel
theorem dX1_standAt_1 : decode cX1_standAt 1 = .ok (.getfield 15, 3) := by decide +kernel
theorem dX1_standAt_4 : decode cX1_standAt 4 = .ok (.iconst (-1), 1) := by decide +kernel
theorem dX1_standAt_5 : decode cX1_standAt 5 = .ok (.if_icmp .eq 11, 3) := by decide +kernel
theorem dX1_standAt_8 : decode cX1_standAt 8 = .ok (.aload_n 0, 1) := by decide +kernel
theorem dX1_standAt_9 : decode cX1_standAt 9 = .ok (.getfield 15, 3) := by decide +kernel
theorem dX1_standAt_12 : decode cX1_standAt 12 = .ok (.iload_n 2, 1) := by decide +kernel
theorem dX1_standAt_13 : decode cX1_standAt 13 = .ok (.if_icmp .le 8, 3) := by decide +kernel
theorem dX1_standAt_16 : decode cX1_standAt 16 = .ok (.aload_n 0, 1) := by decide +kernel
theorem dX1_standAt_17 : decode cX1_standAt 17 = .ok (.aload_n 1, 1) := by decide +kernel
theorem dX1_standAt_18 : decode cX1_standAt 18 = .ok (.invokevirtual 80, 3) := by decide +kernel
theorem dX1_standAt_21 : decode cX1_standAt 21 = .ok (.iconst 0, 1) := by decide +kernel
theorem dX1_standAt_22 : decode cX1_standAt 22 = .ok (.istore_n 3, 1) := by decide +kernel
theorem dX1_standAt_23 : decode cX1_standAt 23 = .ok (.iload_n 3, 1) := by decide +kernel
theorem dX1_standAt_24 : decode cX1_standAt 24 = .ok (.bipush 100, 2) := by decide +kernel
theorem dX1_standAt_26 : decode cX1_standAt 26 = .ok (.if_icmp .ge 22, 3) := by decide +kernel
theorem dX1_standAt_29 : decode cX1_standAt 29 = .ok (.aload_n 0, 1) := by decide +kernel
theorem dX1_standAt_30 : decode cX1_standAt 30 = .ok (.getfield 15, 3) := by decide +kernel
theorem dX1_standAt_33 : decode cX1_standAt 33 = .ok (.iload_n 2, 1) := by decide +kernel
theorem dX1_standAt_34 : decode cX1_standAt 34 = .ok (.if_icmp .ge 14, 3) := by decide +kernel
theorem dX1_standAt_37 : decode cX1_standAt 37 = .ok (.aload_n 0, 1) := by decide +kernel
theorem dX1_standAt_38 : decode cX1_standAt 38 = .ok (.aload_n 1, 1) := by decide +kernel
theorem dX1_standAt_39 : decode cX1_standAt 39 = .ok (.invokevirtual 84, 3) := by decide +kernel
theorem dX1_standAt_42 : decode cX1_standAt 42 = .ok (.iinc 3 1, 3) := by decide +kernel
theorem dX1_standAt_45 : decode cX1_standAt 45 = .ok (.goto (-22), 3) := by decide +kernel
theorem dX1_standAt_48 : decode cX1_standAt 48 = .ok (.return_, 1) := by decide +kernel
theorem dX1_begin_0 : decode cX1_begin 0 = .ok (.aload_n 1, 1) := by decide +kernel
theorem dX1_begin_1 : decode cX1_begin 1 = .ok (.getfield 87, 3) := by decide +kernel
theorem dX1_begin_4 : decode cX1_begin 4 = .ok (.getfield 93, 3) := by decide +kernel
theorem dX1_begin_7 : decode cX1_begin 7 = .ok (.iconst 0, 1) := by decide +kernel
theorem dX1_begin_8 : decode cX1_begin 8 = .ok (.aload_n 0, 1) := by decide +kernel
theorem dX1_begin_9 : decode cX1_begin 9 = .ok (.getfield 18, 3) := by decide +kernel
theorem dX1_begin_12 : decode cX1_begin 12 = .ok (.iconst 0, 1) := by decide +kernel
theorem dX1_begin_13 : decode cX1_begin 13 = .ok (.bipush 64, 2) := by decide +kernel
theorem dX1_begin_15 : decode cX1_begin 15 = .ok (.invokestatic 67, 3) := by decide +kernel
theorem dX1_begin_18 : decode cX1_begin 18 = .ok (.iconst 0, 1) := by decide +kernel
theorem dX1_begin_19 : decode cX1_begin 19 = .ok (.istore_n 2, 1) := by decide +kernel
theorem dX1_begin_20 : decode cX1_begin 20 = .ok (.iload_n 2, 1) := by decide +kernel
theorem dX1_begin_21 : decode cX1_begin 21 = .ok (.bipush 64, 2) := by decide +kernel
theorem dX1_begin_23 : decode cX1_begin 23 = .ok (.if_icmp .ge 16, 3) := by decide +kernel
theorem dX1_begin_26 : decode cX1_begin 26 = .ok (.aload_n 0, 1) := by decide +kernel
theorem dX1_begin_27 : decode cX1_begin 27 = .ok (.getfield 22, 3) := by decide +kernel
theorem dX1_begin_30 : decode cX1_begin 30 = .ok (.iload_n 2, 1) := by decide +kernel
theorem dX1_begin_31 : decode cX1_begin 31 = .ok (.iconst 0, 1) := by decide +kernel
theorem dX1_begin_32 : decode cX1_begin 32 = .ok (.iastore, 1) := by decide +kernel
theorem dX1_begin_33 : decode cX1_begin 33 = .ok (.iinc 2 1, 3) := by decide +kernel
theorem dX1_begin_36 : decode cX1_begin 36 = .ok (.goto (-16), 3) := by decide +kernel
theorem dX1_begin_39 : decode cX1_begin 39 = .ok (.aload_n 0, 1) := by decide +kernel
theorem dX1_begin_40 : decode cX1_begin 40 = .ok (.lconst 0, 1) := by decide +kernel
theorem dX1_begin_41 : decode cX1_begin 41 = .ok (.putfield 54, 3) := by decide +kernel
theorem dX1_begin_44 : decode cX1_begin 44 = .ok (.aload_n 0, 1) := by decide +kernel
theorem dX1_begin_45 : decode cX1_begin 45 = .ok (.lconst 0, 1) := by decide +kernel
theorem dX1_begin_46 : decode cX1_begin 46 = .ok (.putfield 58, 3) := by decide +kernel
theorem dX1_begin_49 : decode cX1_begin 49 = .ok (.aload_n 0, 1) := by decide +kernel
theorem dX1_begin_50 : decode cX1_begin 50 = .ok (.lconst 0, 1) := by decide +kernel
theorem dX1_begin_51 : decode cX1_begin 51 = .ok (.putfield 64, 3) := by decide +kernel
theorem dX1_begin_54 : decode cX1_begin 54 = .ok (.aload_n 0, 1) := by decide +kernel
theorem dX1_begin_55 : decode cX1_begin 55 = .ok (.aload_n 1, 1) := by decide +kernel
theorem dX1_begin_56 : decode cX1_begin 56 = .ok (.getfield 87, 3) := by decide +kernel
theorem dX1_begin_59 : decode cX1_begin 59 = .ok (.getfield 96, 3) := by decide +kernel
theorem dX1_begin_62 : decode cX1_begin 62 = .ok (.putfield 61, 3) := by decide +kernel
theorem dX1_begin_65 : decode cX1_begin 65 = .ok (.aload_n 0, 1) := by decide +kernel
theorem dX1_begin_66 : decode cX1_begin 66 = .ok (.iconst 0, 1) := by decide +kernel
theorem dX1_begin_67 : decode cX1_begin 67 = .ok (.putfield 15, 3) := by decide +kernel
theorem dX1_begin_70 : decode cX1_begin 70 = .ok (.aload_n 0, 1) := by decide +kernel
theorem dX1_begin_71 : decode cX1_begin 71 = .ok (.aload_n 1, 1) := by decide +kernel
theorem dX1_begin_72 : decode cX1_begin 72 = .ok (.invokevirtual 99, 3) := by decide +kernel
theorem dX1_begin_75 : decode cX1_begin 75 = .ok (.return_, 1) := by decide +kernel
theorem dX1_settle_0 : decode cX1_settle 0 = .ok (.aload_n 0, 1) := by decide +kernel
theorem dX1_settle_1 : decode cX1_settle 1 = .ok (.getfield 15, 3) := by decide +kernel
theorem dX1_settle_4 : decode cX1_settle 4 = .ok (.aload_n 0, 1) := by decide +kernel
theorem dX1_settle_5 : decode cX1_settle 5 = .ok (.getfield 38, 3) := by decide +kernel
theorem dX1_settle_8 : decode cX1_settle 8 = .ok (.if_icmp .ne 24, 3) := by decide +kernel
theorem dX1_settle_11 : decode cX1_settle 11 = .ok (.aload_n 0, 1) := by decide +kernel
theorem dX1_settle_12 : decode cX1_settle 12 = .ok (.dup, 1) := by decide +kernel
theorem dX1_settle_13 : decode cX1_settle 13 = .ok (.getfield 54, 3) := by decide +kernel
theorem dX1_settle_16 : decode cX1_settle 16 = .ok (.aload_n 0, 1) := by decide +kernel
theorem dX1_settle_17 : decode cX1_settle 17 = .ok (.getfield 35, 3) := by decide +kernel
theorem dX1_settle_20 : decode cX1_settle 20 = .ok (.invokestatic 102, 3) := by decide +kernel
theorem dX1_settle_23 : decode cX1_settle 23 = .ok (.aload_n 0, 1) := by decide +kernel
theorem dX1_settle_24 : decode cX1_settle 24 = .ok (.getfield 61, 3) := by decide +kernel
theorem dX1_settle_27 : decode cX1_settle 27 = .ok (.land, 1) := by decide +kernel
theorem dX1_settle_28 : decode cX1_settle 28 = .ok (.lor, 1) := by decide +kernel
theorem dX1_settle_29 : decode cX1_settle 29 = .ok (.putfield 54, 3) := by decide +kernel
theorem dX1_settle_32 : decode cX1_settle 32 = .ok (.aload_n 0, 1) := by decide +kernel
theorem dX1_settle_33 : decode cX1_settle 33 = .ok (.getfield 32, 3) := by decide +kernel
theorem dX1_settle_36 : decode cX1_settle 36 = .ok (.aload_n 0, 1) := by decide +kernel
theorem dX1_settle_37 : decode cX1_settle 37 = .ok (.getfield 15, 3) := by decide +kernel
theorem dX1_settle_40 : decode cX1_settle 40 = .ok (.aload_n 0, 1) := by decide +kernel
theorem dX1_settle_41 : decode cX1_settle 41 = .ok (.getfield 54, 3) := by decide +kernel
theorem dX1_settle_44 : decode cX1_settle 44 = .ok (.aload_n 0, 1) := by decide +kernel
theorem dX1_settle_45 : decode cX1_settle 45 = .ok (.getfield 58, 3) := by decide +kernel
theorem dX1_settle_48 : decode cX1_settle 48 = .ok (.lor, 1) := by decide +kernel
theorem dX1_settle_49 : decode cX1_settle 49 = .ok (.lastore, 1) := by decide +kernel
theorem dX1_settle_50 : decode cX1_settle 50 = .ok (.aload_n 1, 1) := by decide +kernel
theorem dX1_settle_51 : decode cX1_settle 51 = .ok (.getfield 106, 3) := by decide +kernel
theorem dX1_settle_54 : decode cX1_settle 54 = .ok (.getfield 110, 3) := by decide +kernel
theorem dX1_settle_57 : decode cX1_settle 57 = .ok (.aload_n 0, 1) := by decide +kernel
theorem dX1_settle_58 : decode cX1_settle 58 = .ok (.getfield 15, 3) := by decide +kernel
theorem dX1_settle_61 : decode cX1_settle 61 = .ok (.laload, 1) := by decide +kernel
theorem dX1_settle_62 : decode cX1_settle 62 = .ok (.lstore_n 2, 1) := by decide +kernel
theorem dX1_settle_63 : decode cX1_settle 63 = .ok (.aload_n 0, 1) := by decide +kernel
theorem dX1_settle_64 : decode cX1_settle 64 = .ok (.getfield 61, 3) := by decide +kernel
theorem dX1_settle_67 : decode cX1_settle 67 = .ok (.lload_n 2, 1) := by decide +kernel
theorem dX1_settle_68 : decode cX1_settle 68 = .ok (.land, 1) := by decide +kernel
theorem dX1_settle_69 : decode cX1_settle 69 = .ok (.lstore 4, 2) := by decide +kernel
theorem dX1_settle_71 : decode cX1_settle 71 = .ok (.iconst 0, 1) := by decide +kernel
theorem dX1_settle_72 : decode cX1_settle 72 = .ok (.istore 6, 2) := by decide +kernel
theorem dX1_settle_74 : decode cX1_settle 74 = .ok (.iload 6, 2) := by decide +kernel
theorem dX1_settle_76 : decode cX1_settle 76 = .ok (.bipush 64, 2) := by decide +kernel
theorem dX1_settle_78 : decode cX1_settle 78 = .ok (.if_icmp .ge 36, 3) := by decide +kernel
theorem dX1_settle_81 : decode cX1_settle 81 = .ok (.lload 4, 2) := by decide +kernel
theorem dX1_settle_83 : decode cX1_settle 83 = .ok (.lconst 0, 1) := by decide +kernel
theorem dX1_settle_84 : decode cX1_settle 84 = .ok (.lcmp, 1) := by decide +kernel
theorem dX1_settle_85 : decode cX1_settle 85 = .ok (.ifCond .eq 29, 3) := by decide +kernel
theorem dX1_settle_88 : decode cX1_settle 88 = .ok (.aload_n 0, 1) := by decide +kernel
theorem dX1_settle_89 : decode cX1_settle 89 = .ok (.getfield 18, 3) := by decide +kernel
theorem dX1_settle_92 : decode cX1_settle 92 = .ok (.lload 4, 2) := by decide +kernel
theorem dX1_settle_94 : decode cX1_settle 94 = .ok (.invokestatic 115, 3) := by decide +kernel
theorem dX1_settle_97 : decode cX1_settle 97 = .ok (.iconst 0, 1) := by decide +kernel
theorem dX1_settle_98 : decode cX1_settle 98 = .ok (.iastore, 1) := by decide +kernel
theorem dX1_settle_99 : decode cX1_settle 99 = .ok (.lload 4, 2) := by decide +kernel
theorem dX1_settle_101 : decode cX1_settle 101 = .ok (.lload 4, 2) := by decide +kernel
theorem dX1_settle_103 : decode cX1_settle 103 = .ok (.lconst 1, 1) := by decide +kernel
theorem dX1_settle_104 : decode cX1_settle 104 = .ok (.lsub, 1) := by decide +kernel
theorem dX1_settle_105 : decode cX1_settle 105 = .ok (.land, 1) := by decide +kernel
theorem dX1_settle_106 : decode cX1_settle 106 = .ok (.lstore 4, 2) := by decide +kernel
theorem dX1_settle_108 : decode cX1_settle 108 = .ok (.iinc 6 1, 3) := by decide +kernel
theorem dX1_settle_111 : decode cX1_settle 111 = .ok (.goto (-37), 3) := by decide +kernel
theorem dX1_settle_114 : decode cX1_settle 114 = .ok (.aload_n 0, 1) := by decide +kernel
theorem dX1_settle_115 : decode cX1_settle 115 = .ok (.dup, 1) := by decide +kernel
theorem dX1_settle_116 : decode cX1_settle 116 = .ok (.getfield 61, 3) := by decide +kernel
theorem dX1_settle_119 : decode cX1_settle 119 = .ok (.lload_n 2, 1) := by decide +kernel
theorem dX1_settle_120 : decode cX1_settle 120 = .ok (.ldc2_w 119, 3) := by decide +kernel
theorem dX1_settle_123 : decode cX1_settle 123 = .ok (.lxor, 1) := by decide +kernel
theorem dX1_settle_124 : decode cX1_settle 124 = .ok (.land, 1) := by decide +kernel
theorem dX1_settle_125 : decode cX1_settle 125 = .ok (.putfield 61, 3) := by decide +kernel
theorem dX1_settle_128 : decode cX1_settle 128 = .ok (.aload_n 0, 1) := by decide +kernel
theorem dX1_settle_129 : decode cX1_settle 129 = .ok (.dup, 1) := by decide +kernel
theorem dX1_settle_130 : decode cX1_settle 130 = .ok (.getfield 54, 3) := by decide +kernel
theorem dX1_settle_133 : decode cX1_settle 133 = .ok (.lload_n 2, 1) := by decide +kernel
theorem dX1_settle_134 : decode cX1_settle 134 = .ok (.ldc2_w 119, 3) := by decide +kernel
theorem dX1_settle_137 : decode cX1_settle 137 = .ok (.lxor, 1) := by decide +kernel
theorem dX1_settle_138 : decode cX1_settle 138 = .ok (.land, 1) := by decide +kernel
theorem dX1_settle_139 : decode cX1_settle 139 = .ok (.putfield 54, 3) := by decide +kernel
theorem dX1_settle_142 : decode cX1_settle 142 = .ok (.aload_n 0, 1) := by decide +kernel
theorem dX1_settle_143 : decode cX1_settle 143 = .ok (.dup, 1) := by decide +kernel
theorem dX1_settle_144 : decode cX1_settle 144 = .ok (.getfield 58, 3) := by decide +kernel
theorem dX1_settle_147 : decode cX1_settle 147 = .ok (.lload_n 2, 1) := by decide +kernel
theorem dX1_settle_148 : decode cX1_settle 148 = .ok (.ldc2_w 119, 3) := by decide +kernel
theorem dX1_settle_151 : decode cX1_settle 151 = .ok (.lxor, 1) := by decide +kernel
theorem dX1_settle_152 : decode cX1_settle 152 = .ok (.land, 1) := by decide +kernel
theorem dX1_settle_153 : decode cX1_settle 153 = .ok (.putfield 58, 3) := by decide +kernel
theorem dX1_settle_156 : decode cX1_settle 156 = .ok (.aload_n 0, 1) := by decide +kernel
theorem dX1_settle_157 : decode cX1_settle 157 = .ok (.invokevirtual 73, 3) := by decide +kernel
theorem dX1_settle_160 : decode cX1_settle 160 = .ok (.return_, 1) := by decide +kernel
theorem dX1_note_0 : decode cX1_note 0 = .ok (.aload_n 0, 1) := by decide +kernel
theorem dX1_note_1 : decode cX1_note 1 = .ok (.getfield 25, 3) := by decide +kernel
theorem dX1_note_4 : decode cX1_note 4 = .ok (.aload_n 0, 1) := by decide +kernel
theorem dX1_note_5 : decode cX1_note 5 = .ok (.getfield 15, 3) := by decide +kernel
theorem dX1_note_8 : decode cX1_note 8 = .ok (.aload_n 0, 1) := by decide +kernel
theorem dX1_note_9 : decode cX1_note 9 = .ok (.getfield 54, 3) := by decide +kernel
theorem dX1_note_12 : decode cX1_note 12 = .ok (.lastore, 1) := by decide +kernel
theorem dX1_note_13 : decode cX1_note 13 = .ok (.aload_n 0, 1) := by decide +kernel
theorem dX1_note_14 : decode cX1_note 14 = .ok (.getfield 29, 3) := by decide +kernel
theorem dX1_note_17 : decode cX1_note 17 = .ok (.aload_n 0, 1) := by decide +kernel
theorem dX1_note_18 : decode cX1_note 18 = .ok (.getfield 15, 3) := by decide +kernel
theorem dX1_note_21 : decode cX1_note 21 = .ok (.aload_n 0, 1) := by decide +kernel
theorem dX1_note_22 : decode cX1_note 22 = .ok (.getfield 58, 3) := by decide +kernel
theorem dX1_note_25 : decode cX1_note 25 = .ok (.lastore, 1) := by decide +kernel
theorem dX1_note_26 : decode cX1_note 26 = .ok (.aload_n 0, 1) := by decide +kernel
theorem dX1_note_27 : decode cX1_note 27 = .ok (.aload_n 0, 1) := by decide +kernel
theorem dX1_note_28 : decode cX1_note 28 = .ok (.getfield 45, 3) := by decide +kernel
theorem dX1_note_31 : decode cX1_note 31 = .ok (.aload_n 0, 1) := by decide +kernel
theorem dX1_note_32 : decode cX1_note 32 = .ok (.getfield 15, 3) := by decide +kernel
theorem dX1_note_35 : decode cX1_note 35 = .ok (.iconst 1, 1) := by decide +kernel
theorem dX1_note_36 : decode cX1_note 36 = .ok (.iadd, 1) := by decide +kernel
theorem dX1_note_37 : decode cX1_note 37 = .ok (.invokestatic 121, 3) := by decide +kernel
theorem dX1_note_40 : decode cX1_note 40 = .ok (.putfield 45, 3) := by decide +kernel
theorem dX1_note_43 : decode cX1_note 43 = .ok (.return_, 1) := by decide +kernel
theorem dX1_air_0 : decode cX1_air 0 = .ok (.aload_n 1, 1) := by decide +kernel
theorem dX1_air_1 : decode cX1_air 1 = .ok (.getfield 124, 3) := by decide +kernel
theorem dX1_air_4 : decode cX1_air 4 = .ok (.astore_n 3, 1) := by decide +kernel
theorem dX1_air_5 : decode cX1_air 5 = .ok (.aload_n 1, 1) := by decide +kernel
theorem dX1_air_6 : decode cX1_air 6 = .ok (.getfield 87, 3) := by decide +kernel
theorem dX1_air_9 : decode cX1_air 9 = .ok (.getfield 128, 3) := by decide +kernel
theorem dX1_air_12 : decode cX1_air 12 = .ok (.iload_n 2, 1) := by decide +kernel
theorem dX1_air_13 : decode cX1_air 13 = .ok (.laload, 1) := by decide +kernel
theorem dX1_air_14 : decode cX1_air 14 = .ok (.aload_n 1, 1) := by decide +kernel
theorem dX1_air_15 : decode cX1_air 15 = .ok (.getfield 106, 3) := by decide +kernel
theorem dX1_air_18 : decode cX1_air 18 = .ok (.getfield 110, 3) := by decide +kernel
theorem dX1_air_21 : decode cX1_air 21 = .ok (.iload_n 2, 1) := by decide +kernel
theorem dX1_air_22 : decode cX1_air 22 = .ok (.laload, 1) := by decide +kernel
theorem dX1_air_23 : decode cX1_air 23 = .ok (.lor, 1) := by decide +kernel
theorem dX1_air_24 : decode cX1_air 24 = .ok (.aload_n 0, 1) := by decide +kernel
theorem dX1_air_25 : decode cX1_air 25 = .ok (.getfield 131, 3) := by decide +kernel
theorem dX1_air_28 : decode cX1_air 28 = .ok (.lor, 1) := by decide +kernel
theorem dX1_air_29 : decode cX1_air 29 = .ok (.lstore 4, 2) := by decide +kernel
theorem dX1_air_31 : decode cX1_air 31 = .ok (.aload_n 1, 1) := by decide +kernel
theorem dX1_air_32 : decode cX1_air 32 = .ok (.getfield 87, 3) := by decide +kernel
theorem dX1_air_35 : decode cX1_air 35 = .ok (.getfield 134, 3) := by decide +kernel
theorem dX1_air_38 : decode cX1_air 38 = .ok (.lload 4, 2) := by decide +kernel
theorem dX1_air_40 : decode cX1_air 40 = .ok (.ldc2_w 119, 3) := by decide +kernel
theorem dX1_air_43 : decode cX1_air 43 = .ok (.lxor, 1) := by decide +kernel
theorem dX1_air_44 : decode cX1_air 44 = .ok (.land, 1) := by decide +kernel
theorem dX1_air_45 : decode cX1_air 45 = .ok (.aload_n 0, 1) := by decide +kernel
theorem dX1_air_46 : decode cX1_air 46 = .ok (.getfield 29, 3) := by decide +kernel
theorem dX1_air_49 : decode cX1_air 49 = .ok (.iload_n 2, 1) := by decide +kernel
theorem dX1_air_50 : decode cX1_air 50 = .ok (.laload, 1) := by decide +kernel
theorem dX1_air_51 : decode cX1_air 51 = .ok (.lor, 1) := by decide +kernel
theorem dX1_air_52 : decode cX1_air 52 = .ok (.lstore 6, 2) := by decide +kernel
theorem dX1_air_54 : decode cX1_air 54 = .ok (.aload_n 0, 1) := by decide +kernel
theorem dX1_air_55 : decode cX1_air 55 = .ok (.getfield 9, 3) := by decide +kernel
theorem dX1_air_58 : decode cX1_air 58 = .ok (.iconst (-1), 1) := by decide +kernel
theorem dX1_air_59 : decode cX1_air 59 = .ok (.if_icmp .ne 15, 3) := by decide +kernel
theorem dX1_air_62 : decode cX1_air 62 = .ok (.aload_n 1, 1) := by decide +kernel
theorem dX1_air_63 : decode cX1_air 63 = .ok (.getfield 106, 3) := by decide +kernel
theorem dX1_air_66 : decode cX1_air 66 = .ok (.getfield 137, 3) := by decide +kernel
theorem dX1_air_69 : decode cX1_air 69 = .ok (.iload_n 2, 1) := by decide +kernel
theorem dX1_air_70 : decode cX1_air 70 = .ok (.laload, 1) := by decide +kernel
theorem dX1_air_71 : decode cX1_air 71 = .ok (.goto 15, 3) := by decide +kernel
theorem dX1_air_74 : decode cX1_air 74 = .ok (.aload_n 1, 1) := by decide +kernel
theorem dX1_air_75 : decode cX1_air 75 = .ok (.getfield 106, 3) := by decide +kernel
theorem dX1_air_78 : decode cX1_air 78 = .ok (.iload_n 2, 1) := by decide +kernel
theorem dX1_air_79 : decode cX1_air 79 = .ok (.aload_n 0, 1) := by decide +kernel
theorem dX1_air_80 : decode cX1_air 80 = .ok (.getfield 9, 3) := by decide +kernel
theorem dX1_air_83 : decode cX1_air 83 = .ok (.invokevirtual 140, 3) := by decide +kernel
theorem dX1_air_86 : decode cX1_air 86 = .ok (.lstore 8, 2) := by decide +kernel
theorem dX1_air_88 : decode cX1_air 88 = .ok (.lload 8, 2) := by decide +kernel
theorem dX1_air_90 : decode cX1_air 90 = .ok (.lstore 10, 2) := by decide +kernel
theorem dX1_air_92 : decode cX1_air 92 = .ok (.lconst 0, 1) := by decide +kernel
theorem dX1_air_93 : decode cX1_air 93 = .ok (.lstore 12, 2) := by decide +kernel
theorem dX1_air_95 : decode cX1_air 95 = .ok (.iconst 0, 1) := by decide +kernel
theorem dX1_air_96 : decode cX1_air 96 = .ok (.istore 14, 2) := by decide +kernel
theorem dX1_air_98 : decode cX1_air 98 = .ok (.iload 14, 2) := by decide +kernel
theorem dX1_air_100 : decode cX1_air 100 = .ok (.aload_n 1, 1) := by decide +kernel
theorem dX1_air_101 : decode cX1_air 101 = .ok (.getfield 87, 3) := by decide +kernel
theorem dX1_air_104 : decode cX1_air 104 = .ok (.getfield 144, 3) := by decide +kernel
theorem dX1_air_107 : decode cX1_air 107 = .ok (.if_icmp .ge 51, 3) := by decide +kernel
theorem dX1_air_110 : decode cX1_air 110 = .ok (.lload 10, 2) := by decide +kernel
theorem dX1_air_112 : decode cX1_air 112 = .ok (.lconst 0, 1) := by decide +kernel
theorem dX1_air_113 : decode cX1_air 113 = .ok (.lcmp, 1) := by decide +kernel
theorem dX1_air_114 : decode cX1_air 114 = .ok (.ifCond .eq 44, 3) := by decide +kernel
theorem dX1_air_117 : decode cX1_air 117 = .ok (.lload 12, 2) := by decide +kernel
theorem dX1_air_119 : decode cX1_air 119 = .ok (.lload 10, 2) := by decide +kernel
theorem dX1_air_121 : decode cX1_air 121 = .ok (.lload 6, 2) := by decide +kernel
theorem dX1_air_123 : decode cX1_air 123 = .ok (.land, 1) := by decide +kernel
theorem dX1_air_124 : decode cX1_air 124 = .ok (.lor, 1) := by decide +kernel
theorem dX1_air_125 : decode cX1_air 125 = .ok (.lstore 12, 2) := by decide +kernel
theorem dX1_air_127 : decode cX1_air 127 = .ok (.aload_n 3, 1) := by decide +kernel
theorem dX1_air_128 : decode cX1_air 128 = .ok (.lload 10, 2) := by decide +kernel
theorem dX1_air_130 : decode cX1_air 130 = .ok (.invokevirtual 147, 3) := by decide +kernel
theorem dX1_air_133 : decode cX1_air 133 = .ok (.lload 6, 2) := by decide +kernel
theorem dX1_air_135 : decode cX1_air 135 = .ok (.land, 1) := by decide +kernel
theorem dX1_air_136 : decode cX1_air 136 = .ok (.lload 8, 2) := by decide +kernel
theorem dX1_air_138 : decode cX1_air 138 = .ok (.ldc2_w 119, 3) := by decide +kernel
theorem dX1_air_141 : decode cX1_air 141 = .ok (.lxor, 1) := by decide +kernel
theorem dX1_air_142 : decode cX1_air 142 = .ok (.land, 1) := by decide +kernel
theorem dX1_air_143 : decode cX1_air 143 = .ok (.lstore 10, 2) := by decide +kernel
theorem dX1_air_145 : decode cX1_air 145 = .ok (.lload 8, 2) := by decide +kernel
theorem dX1_air_147 : decode cX1_air 147 = .ok (.lload 10, 2) := by decide +kernel
theorem dX1_air_149 : decode cX1_air 149 = .ok (.lor, 1) := by decide +kernel
theorem dX1_air_150 : decode cX1_air 150 = .ok (.lstore 8, 2) := by decide +kernel
theorem dX1_air_152 : decode cX1_air 152 = .ok (.iinc 14 1, 3) := by decide +kernel
theorem dX1_air_155 : decode cX1_air 155 = .ok (.goto (-57), 3) := by decide +kernel
theorem dX1_air_158 : decode cX1_air 158 = .ok (.lload 8, 2) := by decide +kernel
theorem dX1_air_160 : decode cX1_air 160 = .ok (.aload_n 3, 1) := by decide +kernel
theorem dX1_air_161 : decode cX1_air 161 = .ok (.lload 12, 2) := by decide +kernel
theorem dX1_air_163 : decode cX1_air 163 = .ok (.invokevirtual 147, 3) := by decide +kernel
theorem dX1_air_166 : decode cX1_air 166 = .ok (.lload 6, 2) := by decide +kernel
theorem dX1_air_168 : decode cX1_air 168 = .ok (.ldc2_w 119, 3) := by decide +kernel
theorem dX1_air_171 : decode cX1_air 171 = .ok (.lxor, 1) := by decide +kernel
theorem dX1_air_172 : decode cX1_air 172 = .ok (.land, 1) := by decide +kernel
theorem dX1_air_173 : decode cX1_air 173 = .ok (.lor, 1) := by decide +kernel
theorem dX1_air_174 : decode cX1_air 174 = .ok (.lreturn, 1) := by decide +kernel
theorem dX1_pass_0 : decode cX1_pass 0 = .ok (.aload_n 0, 1) := by decide +kernel
theorem dX1_pass_1 : decode cX1_pass 1 = .ok (.aload_n 1, 1) := by decide +kernel
theorem dX1_pass_2 : decode cX1_pass 2 = .ok (.aload_n 0, 1) := by decide +kernel
theorem dX1_pass_3 : decode cX1_pass 3 = .ok (.getfield 15, 3) := by decide +kernel
theorem dX1_pass_6 : decode cX1_pass 6 = .ok (.invokevirtual 153, 3) := by decide +kernel
theorem dX1_pass_9 : decode cX1_pass 9 = .ok (.lstore_n 2, 1) := by decide +kernel
theorem dX1_pass_10 : decode cX1_pass 10 = .ok (.aload_n 0, 1) := by decide +kernel
theorem dX1_pass_11 : decode cX1_pass 11 = .ok (.aload_n 1, 1) := by decide +kernel
theorem dX1_pass_12 : decode cX1_pass 12 = .ok (.lload_n 2, 1) := by decide +kernel
theorem dX1_pass_13 : decode cX1_pass 13 = .ok (.invokevirtual 157, 3) := by decide +kernel
theorem dX1_pass_16 : decode cX1_pass 16 = .ok (.lstore 4, 2) := by decide +kernel
theorem dX1_pass_18 : decode cX1_pass 18 = .ok (.aload_n 0, 1) := by decide +kernel
theorem dX1_pass_19 : decode cX1_pass 19 = .ok (.lload_n 2, 1) := by decide +kernel
theorem dX1_pass_20 : decode cX1_pass 20 = .ok (.invokevirtual 161, 3) := by decide +kernel
theorem dX1_pass_23 : decode cX1_pass 23 = .ok (.aload_n 0, 1) := by decide +kernel
theorem dX1_pass_24 : decode cX1_pass 24 = .ok (.aload_n 1, 1) := by decide +kernel
theorem dX1_pass_25 : decode cX1_pass 25 = .ok (.getfield 87, 3) := by decide +kernel
theorem dX1_pass_28 : decode cX1_pass 28 = .ok (.getfield 165, 3) := by decide +kernel
theorem dX1_pass_31 : decode cX1_pass 31 = .ok (.lload_n 2, 1) := by decide +kernel
theorem dX1_pass_32 : decode cX1_pass 32 = .ok (.invokevirtual 168, 3) := by decide +kernel
theorem dX1_pass_35 : decode cX1_pass 35 = .ok (.lstore 6, 2) := by decide +kernel
theorem dX1_pass_37 : decode cX1_pass 37 = .ok (.aload_n 0, 1) := by decide +kernel
theorem dX1_pass_38 : decode cX1_pass 38 = .ok (.aload_n 0, 1) := by decide +kernel
theorem dX1_pass_39 : decode cX1_pass 39 = .ok (.getfield 54, 3) := by decide +kernel
theorem dX1_pass_42 : decode cX1_pass 42 = .ok (.lload 6, 2) := by decide +kernel
theorem dX1_pass_44 : decode cX1_pass 44 = .ok (.ldc2_w 119, 3) := by decide +kernel
theorem dX1_pass_47 : decode cX1_pass 47 = .ok (.lxor, 1) := by decide +kernel
theorem dX1_pass_48 : decode cX1_pass 48 = .ok (.land, 1) := by decide +kernel
theorem dX1_pass_49 : decode cX1_pass 49 = .ok (.lload 4, 2) := by decide +kernel
theorem dX1_pass_51 : decode cX1_pass 51 = .ok (.lor, 1) := by decide +kernel
theorem dX1_pass_52 : decode cX1_pass 52 = .ok (.putfield 54, 3) := by decide +kernel
theorem dX1_pass_55 : decode cX1_pass 55 = .ok (.aload_n 0, 1) := by decide +kernel
theorem dX1_pass_56 : decode cX1_pass 56 = .ok (.dup, 1) := by decide +kernel
theorem dX1_pass_57 : decode cX1_pass 57 = .ok (.getfield 58, 3) := by decide +kernel
theorem dX1_pass_60 : decode cX1_pass 60 = .ok (.lload 6, 2) := by decide +kernel
theorem dX1_pass_62 : decode cX1_pass 62 = .ok (.lor, 1) := by decide +kernel
theorem dX1_pass_63 : decode cX1_pass 63 = .ok (.putfield 58, 3) := by decide +kernel
theorem dX1_pass_66 : decode cX1_pass 66 = .ok (.aload_n 0, 1) := by decide +kernel
theorem dX1_pass_67 : decode cX1_pass 67 = .ok (.dup, 1) := by decide +kernel
theorem dX1_pass_68 : decode cX1_pass 68 = .ok (.getfield 61, 3) := by decide +kernel
theorem dX1_pass_71 : decode cX1_pass 71 = .ok (.lload 6, 2) := by decide +kernel
theorem dX1_pass_73 : decode cX1_pass 73 = .ok (.ldc2_w 119, 3) := by decide +kernel
theorem dX1_pass_76 : decode cX1_pass 76 = .ok (.lxor, 1) := by decide +kernel
theorem dX1_pass_77 : decode cX1_pass 77 = .ok (.land, 1) := by decide +kernel
theorem dX1_pass_78 : decode cX1_pass 78 = .ok (.putfield 61, 3) := by decide +kernel
theorem dX1_pass_81 : decode cX1_pass 81 = .ok (.aload_n 0, 1) := by decide +kernel
theorem dX1_pass_82 : decode cX1_pass 82 = .ok (.dup, 1) := by decide +kernel
theorem dX1_pass_83 : decode cX1_pass 83 = .ok (.getfield 15, 3) := by decide +kernel
theorem dX1_pass_86 : decode cX1_pass 86 = .ok (.iconst 1, 1) := by decide +kernel
theorem dX1_pass_87 : decode cX1_pass 87 = .ok (.iadd, 1) := by decide +kernel
theorem dX1_pass_88 : decode cX1_pass 88 = .ok (.putfield 15, 3) := by decide +kernel
theorem dX1_pass_91 : decode cX1_pass 91 = .ok (.aload_n 0, 1) := by decide +kernel
theorem dX1_pass_92 : decode cX1_pass 92 = .ok (.aload_n 1, 1) := by decide +kernel
theorem dX1_pass_93 : decode cX1_pass 93 = .ok (.invokevirtual 99, 3) := by decide +kernel
theorem dX1_pass_96 : decode cX1_pass 96 = .ok (.return_, 1) := by decide +kernel
theorem dX1_warmUp_0 : decode cX1_warmUp 0 = .ok (.aload_n 1, 1) := by decide +kernel
theorem dX1_warmUp_1 : decode cX1_warmUp 1 = .ok (.getfield 124, 3) := by decide +kernel
theorem dX1_warmUp_4 : decode cX1_warmUp 4 = .ok (.aload_n 0, 1) := by decide +kernel
theorem dX1_warmUp_5 : decode cX1_warmUp 5 = .ok (.getfield 54, 3) := by decide +kernel
theorem dX1_warmUp_8 : decode cX1_warmUp 8 = .ok (.invokevirtual 147, 3) := by decide +kernel
theorem dX1_warmUp_11 : decode cX1_warmUp 11 = .ok (.aload_n 0, 1) := by decide +kernel
theorem dX1_warmUp_12 : decode cX1_warmUp 12 = .ok (.getfield 61, 3) := by decide +kernel
theorem dX1_warmUp_15 : decode cX1_warmUp 15 = .ok (.land, 1) := by decide +kernel
theorem dX1_warmUp_16 : decode cX1_warmUp 16 = .ok (.aload_n 0, 1) := by decide +kernel
theorem dX1_warmUp_17 : decode cX1_warmUp 17 = .ok (.getfield 54, 3) := by decide +kernel
theorem dX1_warmUp_20 : decode cX1_warmUp 20 = .ok (.ldc2_w 119, 3) := by decide +kernel
theorem dX1_warmUp_23 : decode cX1_warmUp 23 = .ok (.lxor, 1) := by decide +kernel
theorem dX1_warmUp_24 : decode cX1_warmUp 24 = .ok (.land, 1) := by decide +kernel
theorem dX1_warmUp_25 : decode cX1_warmUp 25 = .ok (.lload_n 2, 1) := by decide +kernel
theorem dX1_warmUp_26 : decode cX1_warmUp 26 = .ok (.land, 1) := by decide +kernel
theorem dX1_warmUp_27 : decode cX1_warmUp 27 = .ok (.lstore 4, 2) := by decide +kernel
theorem dX1_warmUp_29 : decode cX1_warmUp 29 = .ok (.aload_n 0, 1) := by decide +kernel
theorem dX1_warmUp_30 : decode cX1_warmUp 30 = .ok (.dup, 1) := by decide +kernel
theorem dX1_warmUp_31 : decode cX1_warmUp 31 = .ok (.getfield 64, 3) := by decide +kernel
theorem dX1_warmUp_34 : decode cX1_warmUp 34 = .ok (.lload 4, 2) := by decide +kernel
theorem dX1_warmUp_36 : decode cX1_warmUp 36 = .ok (.lor, 1) := by decide +kernel
theorem dX1_warmUp_37 : decode cX1_warmUp 37 = .ok (.putfield 64, 3) := by decide +kernel
theorem dX1_warmUp_40 : decode cX1_warmUp 40 = .ok (.lconst 0, 1) := by decide +kernel
theorem dX1_warmUp_41 : decode cX1_warmUp 41 = .ok (.lstore 6, 2) := by decide +kernel
theorem dX1_warmUp_43 : decode cX1_warmUp 43 = .ok (.iconst 0, 1) := by decide +kernel
theorem dX1_warmUp_44 : decode cX1_warmUp 44 = .ok (.istore 8, 2) := by decide +kernel
theorem dX1_warmUp_46 : decode cX1_warmUp 46 = .ok (.iload 8, 2) := by decide +kernel
theorem dX1_warmUp_48 : decode cX1_warmUp 48 = .ok (.bipush 64, 2) := by decide +kernel
theorem dX1_warmUp_50 : decode cX1_warmUp 50 = .ok (.if_icmp .ge 91, 3) := by decide +kernel
theorem dX1_warmUp_53 : decode cX1_warmUp 53 = .ok (.lload 4, 2) := by decide +kernel
theorem dX1_warmUp_55 : decode cX1_warmUp 55 = .ok (.lconst 0, 1) := by decide +kernel
theorem dX1_warmUp_56 : decode cX1_warmUp 56 = .ok (.lcmp, 1) := by decide +kernel
theorem dX1_warmUp_57 : decode cX1_warmUp 57 = .ok (.ifCond .eq 84, 3) := by decide +kernel
theorem dX1_warmUp_60 : decode cX1_warmUp 60 = .ok (.lload 4, 2) := by decide +kernel
theorem dX1_warmUp_62 : decode cX1_warmUp 62 = .ok (.lload 4, 2) := by decide +kernel
theorem dX1_warmUp_64 : decode cX1_warmUp 64 = .ok (.lneg, 1) := by decide +kernel
theorem dX1_warmUp_65 : decode cX1_warmUp 65 = .ok (.land, 1) := by decide +kernel
theorem dX1_warmUp_66 : decode cX1_warmUp 66 = .ok (.lstore 9, 2) := by decide +kernel
theorem dX1_warmUp_68 : decode cX1_warmUp 68 = .ok (.lload 4, 2) := by decide +kernel
theorem dX1_warmUp_70 : decode cX1_warmUp 70 = .ok (.invokestatic 115, 3) := by decide +kernel
theorem dX1_warmUp_73 : decode cX1_warmUp 73 = .ok (.istore 11, 2) := by decide +kernel
theorem dX1_warmUp_75 : decode cX1_warmUp 75 = .ok (.lload 4, 2) := by decide +kernel
theorem dX1_warmUp_77 : decode cX1_warmUp 77 = .ok (.lload 4, 2) := by decide +kernel
theorem dX1_warmUp_79 : decode cX1_warmUp 79 = .ok (.lconst 1, 1) := by decide +kernel
theorem dX1_warmUp_80 : decode cX1_warmUp 80 = .ok (.lsub, 1) := by decide +kernel
theorem dX1_warmUp_81 : decode cX1_warmUp 81 = .ok (.land, 1) := by decide +kernel
theorem dX1_warmUp_82 : decode cX1_warmUp 82 = .ok (.lstore 4, 2) := by decide +kernel
theorem dX1_warmUp_84 : decode cX1_warmUp 84 = .ok (.aload_n 0, 1) := by decide +kernel
theorem dX1_warmUp_85 : decode cX1_warmUp 85 = .ok (.getfield 22, 3) := by decide +kernel
theorem dX1_warmUp_88 : decode cX1_warmUp 88 = .ok (.iload 11, 2) := by decide +kernel
theorem dX1_warmUp_90 : decode cX1_warmUp 90 = .ok (.dup2, 1) := by decide +kernel
theorem dX1_warmUp_91 : decode cX1_warmUp 91 = .ok (.iaload, 1) := by decide +kernel
theorem dX1_warmUp_92 : decode cX1_warmUp 92 = .ok (.aload_n 1, 1) := by decide +kernel
theorem dX1_warmUp_93 : decode cX1_warmUp 93 = .ok (.getfield 124, 3) := by decide +kernel
theorem dX1_warmUp_96 : decode cX1_warmUp 96 = .ok (.lload 9, 2) := by decide +kernel
theorem dX1_warmUp_98 : decode cX1_warmUp 98 = .ok (.invokevirtual 147, 3) := by decide +kernel
theorem dX1_warmUp_101 : decode cX1_warmUp 101 = .ok (.aload_n 0, 1) := by decide +kernel
theorem dX1_warmUp_102 : decode cX1_warmUp 102 = .ok (.getfield 54, 3) := by decide +kernel
theorem dX1_warmUp_105 : decode cX1_warmUp 105 = .ok (.land, 1) := by decide +kernel
theorem dX1_warmUp_106 : decode cX1_warmUp 106 = .ok (.invokestatic 172, 3) := by decide +kernel
theorem dX1_warmUp_109 : decode cX1_warmUp 109 = .ok (.iadd, 1) := by decide +kernel
theorem dX1_warmUp_110 : decode cX1_warmUp 110 = .ok (.iastore, 1) := by decide +kernel
theorem dX1_warmUp_111 : decode cX1_warmUp 111 = .ok (.aload_n 0, 1) := by decide +kernel
theorem dX1_warmUp_112 : decode cX1_warmUp 112 = .ok (.getfield 22, 3) := by decide +kernel
theorem dX1_warmUp_115 : decode cX1_warmUp 115 = .ok (.iload 11, 2) := by decide +kernel
theorem dX1_warmUp_117 : decode cX1_warmUp 117 = .ok (.iaload, 1) := by decide +kernel
theorem dX1_warmUp_118 : decode cX1_warmUp 118 = .ok (.aload_n 1, 1) := by decide +kernel
theorem dX1_warmUp_119 : decode cX1_warmUp 119 = .ok (.getfield 87, 3) := by decide +kernel
theorem dX1_warmUp_122 : decode cX1_warmUp 122 = .ok (.getfield 177, 3) := by decide +kernel
theorem dX1_warmUp_125 : decode cX1_warmUp 125 = .ok (.if_icmp .lt 10, 3) := by decide +kernel
theorem dX1_warmUp_128 : decode cX1_warmUp 128 = .ok (.lload 6, 2) := by decide +kernel
theorem dX1_warmUp_130 : decode cX1_warmUp 130 = .ok (.lload 9, 2) := by decide +kernel
theorem dX1_warmUp_132 : decode cX1_warmUp 132 = .ok (.lor, 1) := by decide +kernel
theorem dX1_warmUp_133 : decode cX1_warmUp 133 = .ok (.lstore 6, 2) := by decide +kernel
theorem dX1_warmUp_135 : decode cX1_warmUp 135 = .ok (.iinc 8 1, 3) := by decide +kernel
theorem dX1_warmUp_138 : decode cX1_warmUp 138 = .ok (.goto (-92), 3) := by decide +kernel
theorem dX1_warmUp_141 : decode cX1_warmUp 141 = .ok (.lload 6, 2) := by decide +kernel
theorem dX1_warmUp_143 : decode cX1_warmUp 143 = .ok (.lreturn, 1) := by decide +kernel
theorem dX1_coolDown_0 : decode cX1_coolDown 0 = .ok (.aload_n 0, 1) := by decide +kernel
theorem dX1_coolDown_1 : decode cX1_coolDown 1 = .ok (.getfield 64, 3) := by decide +kernel
theorem dX1_coolDown_4 : decode cX1_coolDown 4 = .ok (.aload_n 0, 1) := by decide +kernel
theorem dX1_coolDown_5 : decode cX1_coolDown 5 = .ok (.getfield 61, 3) := by decide +kernel
theorem dX1_coolDown_8 : decode cX1_coolDown 8 = .ok (.land, 1) := by decide +kernel
theorem dX1_coolDown_9 : decode cX1_coolDown 9 = .ok (.aload_n 0, 1) := by decide +kernel
theorem dX1_coolDown_10 : decode cX1_coolDown 10 = .ok (.getfield 54, 3) := by decide +kernel
theorem dX1_coolDown_13 : decode cX1_coolDown 13 = .ok (.ldc2_w 119, 3) := by decide +kernel
theorem dX1_coolDown_16 : decode cX1_coolDown 16 = .ok (.lxor, 1) := by decide +kernel
theorem dX1_coolDown_17 : decode cX1_coolDown 17 = .ok (.land, 1) := by decide +kernel
theorem dX1_coolDown_18 : decode cX1_coolDown 18 = .ok (.lload_n 1, 1) := by decide +kernel
theorem dX1_coolDown_19 : decode cX1_coolDown 19 = .ok (.ldc2_w 119, 3) := by decide +kernel
theorem dX1_coolDown_22 : decode cX1_coolDown 22 = .ok (.lxor, 1) := by decide +kernel
theorem dX1_coolDown_23 : decode cX1_coolDown 23 = .ok (.land, 1) := by decide +kernel
theorem dX1_coolDown_24 : decode cX1_coolDown 24 = .ok (.lstore_n 3, 1) := by decide +kernel
theorem dX1_coolDown_25 : decode cX1_coolDown 25 = .ok (.iconst 0, 1) := by decide +kernel
theorem dX1_coolDown_26 : decode cX1_coolDown 26 = .ok (.istore 5, 2) := by decide +kernel
theorem dX1_coolDown_28 : decode cX1_coolDown 28 = .ok (.iload 5, 2) := by decide +kernel
theorem dX1_coolDown_30 : decode cX1_coolDown 30 = .ok (.bipush 64, 2) := by decide +kernel
theorem dX1_coolDown_32 : decode cX1_coolDown 32 = .ok (.if_icmp .ge 78, 3) := by decide +kernel
theorem dX1_coolDown_35 : decode cX1_coolDown 35 = .ok (.lload_n 3, 1) := by decide +kernel
theorem dX1_coolDown_36 : decode cX1_coolDown 36 = .ok (.lconst 0, 1) := by decide +kernel
theorem dX1_coolDown_37 : decode cX1_coolDown 37 = .ok (.lcmp, 1) := by decide +kernel
theorem dX1_coolDown_38 : decode cX1_coolDown 38 = .ok (.ifCond .eq 72, 3) := by decide +kernel
theorem dX1_coolDown_41 : decode cX1_coolDown 41 = .ok (.lload_n 3, 1) := by decide +kernel
theorem dX1_coolDown_42 : decode cX1_coolDown 42 = .ok (.lload_n 3, 1) := by decide +kernel
theorem dX1_coolDown_43 : decode cX1_coolDown 43 = .ok (.lneg, 1) := by decide +kernel
theorem dX1_coolDown_44 : decode cX1_coolDown 44 = .ok (.land, 1) := by decide +kernel
theorem dX1_coolDown_45 : decode cX1_coolDown 45 = .ok (.lstore 6, 2) := by decide +kernel
theorem dX1_coolDown_47 : decode cX1_coolDown 47 = .ok (.lload_n 3, 1) := by decide +kernel
theorem dX1_coolDown_48 : decode cX1_coolDown 48 = .ok (.invokestatic 115, 3) := by decide +kernel
theorem dX1_coolDown_51 : decode cX1_coolDown 51 = .ok (.istore 8, 2) := by decide +kernel
theorem dX1_coolDown_53 : decode cX1_coolDown 53 = .ok (.lload_n 3, 1) := by decide +kernel
theorem dX1_coolDown_54 : decode cX1_coolDown 54 = .ok (.lload_n 3, 1) := by decide +kernel
theorem dX1_coolDown_55 : decode cX1_coolDown 55 = .ok (.lconst 1, 1) := by decide +kernel
theorem dX1_coolDown_56 : decode cX1_coolDown 56 = .ok (.lsub, 1) := by decide +kernel
theorem dX1_coolDown_57 : decode cX1_coolDown 57 = .ok (.land, 1) := by decide +kernel
theorem dX1_coolDown_58 : decode cX1_coolDown 58 = .ok (.lstore_n 3, 1) := by decide +kernel
theorem dX1_coolDown_59 : decode cX1_coolDown 59 = .ok (.aload_n 0, 1) := by decide +kernel
theorem dX1_coolDown_60 : decode cX1_coolDown 60 = .ok (.getfield 22, 3) := by decide +kernel
theorem dX1_coolDown_63 : decode cX1_coolDown 63 = .ok (.iload 8, 2) := by decide +kernel
theorem dX1_coolDown_65 : decode cX1_coolDown 65 = .ok (.iconst 0, 1) := by decide +kernel
theorem dX1_coolDown_66 : decode cX1_coolDown 66 = .ok (.aload_n 0, 1) := by decide +kernel
theorem dX1_coolDown_67 : decode cX1_coolDown 67 = .ok (.getfield 22, 3) := by decide +kernel
theorem dX1_coolDown_70 : decode cX1_coolDown 70 = .ok (.iload 8, 2) := by decide +kernel
theorem dX1_coolDown_72 : decode cX1_coolDown 72 = .ok (.iaload, 1) := by decide +kernel
theorem dX1_coolDown_73 : decode cX1_coolDown 73 = .ok (.iconst 1, 1) := by decide +kernel
theorem dX1_coolDown_74 : decode cX1_coolDown 74 = .ok (.isub, 1) := by decide +kernel
theorem dX1_coolDown_75 : decode cX1_coolDown 75 = .ok (.invokestatic 121, 3) := by decide +kernel
theorem dX1_coolDown_78 : decode cX1_coolDown 78 = .ok (.iastore, 1) := by decide +kernel
theorem dX1_coolDown_79 : decode cX1_coolDown 79 = .ok (.aload_n 0, 1) := by decide +kernel
theorem dX1_coolDown_80 : decode cX1_coolDown 80 = .ok (.getfield 22, 3) := by decide +kernel
theorem dX1_coolDown_83 : decode cX1_coolDown 83 = .ok (.iload 8, 2) := by decide +kernel
theorem dX1_coolDown_85 : decode cX1_coolDown 85 = .ok (.iaload, 1) := by decide +kernel
theorem dX1_coolDown_86 : decode cX1_coolDown 86 = .ok (.ifCond .ne 18, 3) := by decide +kernel
theorem dX1_coolDown_89 : decode cX1_coolDown 89 = .ok (.aload_n 0, 1) := by decide +kernel
theorem dX1_coolDown_90 : decode cX1_coolDown 90 = .ok (.dup, 1) := by decide +kernel
theorem dX1_coolDown_91 : decode cX1_coolDown 91 = .ok (.getfield 64, 3) := by decide +kernel
theorem dX1_coolDown_94 : decode cX1_coolDown 94 = .ok (.lload 6, 2) := by decide +kernel
theorem dX1_coolDown_96 : decode cX1_coolDown 96 = .ok (.ldc2_w 119, 3) := by decide +kernel
theorem dX1_coolDown_99 : decode cX1_coolDown 99 = .ok (.lxor, 1) := by decide +kernel
theorem dX1_coolDown_100 : decode cX1_coolDown 100 = .ok (.land, 1) := by decide +kernel
theorem dX1_coolDown_101 : decode cX1_coolDown 101 = .ok (.putfield 64, 3) := by decide +kernel
theorem dX1_coolDown_104 : decode cX1_coolDown 104 = .ok (.iinc 5 1, 3) := by decide +kernel
theorem dX1_coolDown_107 : decode cX1_coolDown 107 = .ok (.goto (-79), 3) := by decide +kernel
theorem dX1_coolDown_110 : decode cX1_coolDown 110 = .ok (.return_, 1) := by decide +kernel
theorem dX1_burnDown_0 : decode cX1_burnDown 0 = .ok (.aload_n 0, 1) := by decide +kernel
theorem dX1_burnDown_1 : decode cX1_burnDown 1 = .ok (.getfield 54, 3) := by decide +kernel
theorem dX1_burnDown_4 : decode cX1_burnDown 4 = .ok (.lstore 4, 2) := by decide +kernel
theorem dX1_burnDown_6 : decode cX1_burnDown 6 = .ok (.lconst 0, 1) := by decide +kernel
theorem dX1_burnDown_7 : decode cX1_burnDown 7 = .ok (.lstore 6, 2) := by decide +kernel
theorem dX1_burnDown_9 : decode cX1_burnDown 9 = .ok (.iconst 0, 1) := by decide +kernel
theorem dX1_burnDown_10 : decode cX1_burnDown 10 = .ok (.istore 8, 2) := by decide +kernel
theorem dX1_burnDown_12 : decode cX1_burnDown 12 = .ok (.iload 8, 2) := by decide +kernel
theorem dX1_burnDown_14 : decode cX1_burnDown 14 = .ok (.bipush 64, 2) := by decide +kernel
theorem dX1_burnDown_16 : decode cX1_burnDown 16 = .ok (.if_icmp .ge 96, 3) := by decide +kernel
theorem dX1_burnDown_19 : decode cX1_burnDown 19 = .ok (.lload 4, 2) := by decide +kernel
theorem dX1_burnDown_21 : decode cX1_burnDown 21 = .ok (.lconst 0, 1) := by decide +kernel
theorem dX1_burnDown_22 : decode cX1_burnDown 22 = .ok (.lcmp, 1) := by decide +kernel
theorem dX1_burnDown_23 : decode cX1_burnDown 23 = .ok (.ifCond .eq 89, 3) := by decide +kernel
theorem dX1_burnDown_26 : decode cX1_burnDown 26 = .ok (.lload 4, 2) := by decide +kernel
theorem dX1_burnDown_28 : decode cX1_burnDown 28 = .ok (.lload 4, 2) := by decide +kernel
theorem dX1_burnDown_30 : decode cX1_burnDown 30 = .ok (.lneg, 1) := by decide +kernel
theorem dX1_burnDown_31 : decode cX1_burnDown 31 = .ok (.land, 1) := by decide +kernel
theorem dX1_burnDown_32 : decode cX1_burnDown 32 = .ok (.lstore 9, 2) := by decide +kernel
theorem dX1_burnDown_34 : decode cX1_burnDown 34 = .ok (.lload 4, 2) := by decide +kernel
theorem dX1_burnDown_36 : decode cX1_burnDown 36 = .ok (.invokestatic 115, 3) := by decide +kernel
theorem dX1_burnDown_39 : decode cX1_burnDown 39 = .ok (.istore 11, 2) := by decide +kernel
theorem dX1_burnDown_41 : decode cX1_burnDown 41 = .ok (.lload 4, 2) := by decide +kernel
theorem dX1_burnDown_43 : decode cX1_burnDown 43 = .ok (.lload 4, 2) := by decide +kernel
theorem dX1_burnDown_45 : decode cX1_burnDown 45 = .ok (.lconst 1, 1) := by decide +kernel
theorem dX1_burnDown_46 : decode cX1_burnDown 46 = .ok (.lsub, 1) := by decide +kernel
theorem dX1_burnDown_47 : decode cX1_burnDown 47 = .ok (.land, 1) := by decide +kernel
theorem dX1_burnDown_48 : decode cX1_burnDown 48 = .ok (.lstore 4, 2) := by decide +kernel
theorem dX1_burnDown_50 : decode cX1_burnDown 50 = .ok (.lload_n 2, 1) := by decide +kernel
theorem dX1_burnDown_51 : decode cX1_burnDown 51 = .ok (.lload 9, 2) := by decide +kernel
theorem dX1_burnDown_53 : decode cX1_burnDown 53 = .ok (.land, 1) := by decide +kernel
theorem dX1_burnDown_54 : decode cX1_burnDown 54 = .ok (.lconst 0, 1) := by decide +kernel
theorem dX1_burnDown_55 : decode cX1_burnDown 55 = .ok (.lcmp, 1) := by decide +kernel
theorem dX1_burnDown_56 : decode cX1_burnDown 56 = .ok (.ifCond .eq 7, 3) := by decide +kernel
theorem dX1_burnDown_59 : decode cX1_burnDown 59 = .ok (.iload_n 1, 1) := by decide +kernel
theorem dX1_burnDown_60 : decode cX1_burnDown 60 = .ok (.goto 6, 3) := by decide +kernel
theorem dX1_burnDown_63 : decode cX1_burnDown 63 = .ok (.iload_n 1, 1) := by decide +kernel
theorem dX1_burnDown_64 : decode cX1_burnDown 64 = .ok (.iconst 2, 1) := by decide +kernel
theorem dX1_burnDown_65 : decode cX1_burnDown 65 = .ok (.idiv, 1) := by decide +kernel
theorem dX1_burnDown_66 : decode cX1_burnDown 66 = .ok (.istore 12, 2) := by decide +kernel
theorem dX1_burnDown_68 : decode cX1_burnDown 68 = .ok (.aload_n 0, 1) := by decide +kernel
theorem dX1_burnDown_69 : decode cX1_burnDown 69 = .ok (.getfield 18, 3) := by decide +kernel
theorem dX1_burnDown_72 : decode cX1_burnDown 72 = .ok (.iload 11, 2) := by decide +kernel
theorem dX1_burnDown_74 : decode cX1_burnDown 74 = .ok (.iconst 0, 1) := by decide +kernel
theorem dX1_burnDown_75 : decode cX1_burnDown 75 = .ok (.aload_n 0, 1) := by decide +kernel
theorem dX1_burnDown_76 : decode cX1_burnDown 76 = .ok (.getfield 18, 3) := by decide +kernel
theorem dX1_burnDown_79 : decode cX1_burnDown 79 = .ok (.iload 11, 2) := by decide +kernel
theorem dX1_burnDown_81 : decode cX1_burnDown 81 = .ok (.iaload, 1) := by decide +kernel
theorem dX1_burnDown_82 : decode cX1_burnDown 82 = .ok (.iload 12, 2) := by decide +kernel
theorem dX1_burnDown_84 : decode cX1_burnDown 84 = .ok (.isub, 1) := by decide +kernel
theorem dX1_burnDown_85 : decode cX1_burnDown 85 = .ok (.invokestatic 121, 3) := by decide +kernel
theorem dX1_burnDown_88 : decode cX1_burnDown 88 = .ok (.iastore, 1) := by decide +kernel
theorem dX1_burnDown_89 : decode cX1_burnDown 89 = .ok (.aload_n 0, 1) := by decide +kernel
theorem dX1_burnDown_90 : decode cX1_burnDown 90 = .ok (.getfield 18, 3) := by decide +kernel
theorem dX1_burnDown_93 : decode cX1_burnDown 93 = .ok (.iload 11, 2) := by decide +kernel
theorem dX1_burnDown_95 : decode cX1_burnDown 95 = .ok (.iaload, 1) := by decide +kernel
theorem dX1_burnDown_96 : decode cX1_burnDown 96 = .ok (.ifCond .ne 10, 3) := by decide +kernel
theorem dX1_burnDown_99 : decode cX1_burnDown 99 = .ok (.lload 6, 2) := by decide +kernel
theorem dX1_burnDown_101 : decode cX1_burnDown 101 = .ok (.lload 9, 2) := by decide +kernel
theorem dX1_burnDown_103 : decode cX1_burnDown 103 = .ok (.lor, 1) := by decide +kernel
theorem dX1_burnDown_104 : decode cX1_burnDown 104 = .ok (.lstore 6, 2) := by decide +kernel
theorem dX1_burnDown_106 : decode cX1_burnDown 106 = .ok (.iinc 8 1, 3) := by decide +kernel
theorem dX1_burnDown_109 : decode cX1_burnDown 109 = .ok (.goto (-97), 3) := by decide +kernel
theorem dX1_burnDown_112 : decode cX1_burnDown 112 = .ok (.lload 6, 2) := by decide +kernel
theorem dX1_burnDown_114 : decode cX1_burnDown 114 = .ok (.lreturn, 1) := by decide +kernel
theorem dX2_init_0 : decode cX2_init 0 = .ok (.aload_n 0, 1) := by decide +kernel
theorem dX2_init_1 : decode cX2_init 1 = .ok (.invokespecial 1, 3) := by decide +kernel
theorem dX2_init_4 : decode cX2_init 4 = .ok (.aload_n 0, 1) := by decide +kernel
theorem dX2_init_5 : decode cX2_init 5 = .ok (.iload_n 1, 1) := by decide +kernel
theorem dX2_init_6 : decode cX2_init 6 = .ok (.putfield 7, 3) := by decide +kernel
theorem dX2_init_9 : decode cX2_init 9 = .ok (.aload_n 0, 1) := by decide +kernel
theorem dX2_init_10 : decode cX2_init 10 = .ok (.iload_n 2, 1) := by decide +kernel
theorem dX2_init_11 : decode cX2_init 11 = .ok (.putfield 13, 3) := by decide +kernel
theorem dX2_init_14 : decode cX2_init 14 = .ok (.aload_n 0, 1) := by decide +kernel
theorem dX2_init_15 : decode cX2_init 15 = .ok (.iload_n 1, 1) := by decide +kernel
theorem dX2_init_16 : decode cX2_init 16 = .ok (.iload_n 2, 1) := by decide +kernel
theorem dX2_init_17 : decode cX2_init 17 = .ok (.imul, 1) := by decide +kernel
theorem dX2_init_18 : decode cX2_init 18 = .ok (.putfield 16, 3) := by decide +kernel
theorem dX2_init_21 : decode cX2_init 21 = .ok (.lconst 0, 1) := by decide +kernel
theorem dX2_init_22 : decode cX2_init 22 = .ok (.lstore_n 3, 1) := by decide +kernel
theorem dX2_init_23 : decode cX2_init 23 = .ok (.lconst 0, 1) := by decide +kernel
theorem dX2_init_24 : decode cX2_init 24 = .ok (.lstore 5, 2) := by decide +kernel
theorem dX2_init_26 : decode cX2_init 26 = .ok (.lconst 0, 1) := by decide +kernel
theorem dX2_init_27 : decode cX2_init 27 = .ok (.lstore 7, 2) := by decide +kernel
theorem dX2_init_29 : decode cX2_init 29 = .ok (.iconst 0, 1) := by decide +kernel
theorem dX2_init_30 : decode cX2_init 30 = .ok (.istore 9, 2) := by decide +kernel
theorem dX2_init_32 : decode cX2_init 32 = .ok (.iload 9, 2) := by decide +kernel
theorem dX2_init_34 : decode cX2_init 34 = .ok (.iload_n 2, 1) := by decide +kernel
theorem dX2_init_35 : decode cX2_init 35 = .ok (.if_icmp .ge 62, 3) := by decide +kernel
theorem dX2_init_38 : decode cX2_init 38 = .ok (.iconst 0, 1) := by decide +kernel
theorem dX2_init_39 : decode cX2_init 39 = .ok (.istore 10, 2) := by decide +kernel
theorem dX2_init_41 : decode cX2_init 41 = .ok (.iload 10, 2) := by decide +kernel
theorem dX2_init_43 : decode cX2_init 43 = .ok (.iload_n 1, 1) := by decide +kernel
theorem dX2_init_44 : decode cX2_init 44 = .ok (.if_icmp .ge 21, 3) := by decide +kernel
theorem dX2_init_47 : decode cX2_init 47 = .ok (.lload_n 3, 1) := by decide +kernel
theorem dX2_init_48 : decode cX2_init 48 = .ok (.lconst 1, 1) := by decide +kernel
theorem dX2_init_49 : decode cX2_init 49 = .ok (.iload 9, 2) := by decide +kernel
theorem dX2_init_51 : decode cX2_init 51 = .ok (.iload_n 1, 1) := by decide +kernel
theorem dX2_init_52 : decode cX2_init 52 = .ok (.imul, 1) := by decide +kernel
theorem dX2_init_53 : decode cX2_init 53 = .ok (.iload 10, 2) := by decide +kernel
theorem dX2_init_55 : decode cX2_init 55 = .ok (.iadd, 1) := by decide +kernel
theorem dX2_init_56 : decode cX2_init 56 = .ok (.lshl, 1) := by decide +kernel
theorem dX2_init_57 : decode cX2_init 57 = .ok (.lor, 1) := by decide +kernel
theorem dX2_init_58 : decode cX2_init 58 = .ok (.lstore_n 3, 1) := by decide +kernel
theorem dX2_init_59 : decode cX2_init 59 = .ok (.iinc 10 1, 3) := by decide +kernel
theorem dX2_init_62 : decode cX2_init 62 = .ok (.goto (-21), 3) := by decide +kernel
theorem dX2_init_65 : decode cX2_init 65 = .ok (.lload 5, 2) := by decide +kernel
theorem dX2_init_67 : decode cX2_init 67 = .ok (.lconst 1, 1) := by decide +kernel
theorem dX2_init_68 : decode cX2_init 68 = .ok (.iload 9, 2) := by decide +kernel
theorem dX2_init_70 : decode cX2_init 70 = .ok (.iload_n 1, 1) := by decide +kernel
theorem dX2_init_71 : decode cX2_init 71 = .ok (.imul, 1) := by decide +kernel
theorem dX2_init_72 : decode cX2_init 72 = .ok (.lshl, 1) := by decide +kernel
theorem dX2_init_73 : decode cX2_init 73 = .ok (.lor, 1) := by decide +kernel
theorem dX2_init_74 : decode cX2_init 74 = .ok (.lstore 5, 2) := by decide +kernel
theorem dX2_init_76 : decode cX2_init 76 = .ok (.lload 7, 2) := by decide +kernel
theorem dX2_init_78 : decode cX2_init 78 = .ok (.lconst 1, 1) := by decide +kernel
theorem dX2_init_79 : decode cX2_init 79 = .ok (.iload 9, 2) := by decide +kernel
theorem dX2_init_81 : decode cX2_init 81 = .ok (.iload_n 1, 1) := by decide +kernel
theorem dX2_init_82 : decode cX2_init 82 = .ok (.imul, 1) := by decide +kernel
theorem dX2_init_83 : decode cX2_init 83 = .ok (.iload_n 1, 1) := by decide +kernel
theorem dX2_init_84 : decode cX2_init 84 = .ok (.iadd, 1) := by decide +kernel
theorem dX2_init_85 : decode cX2_init 85 = .ok (.iconst 1, 1) := by decide +kernel
theorem dX2_init_86 : decode cX2_init 86 = .ok (.isub, 1) := by decide +kernel
theorem dX2_init_87 : decode cX2_init 87 = .ok (.lshl, 1) := by decide +kernel
theorem dX2_init_88 : decode cX2_init 88 = .ok (.lor, 1) := by decide +kernel
theorem dX2_init_89 : decode cX2_init 89 = .ok (.lstore 7, 2) := by decide +kernel
theorem dX2_init_91 : decode cX2_init 91 = .ok (.iinc 9 1, 3) := by decide +kernel
theorem dX2_init_94 : decode cX2_init 94 = .ok (.goto (-62), 3) := by decide +kernel
theorem dX2_init_97 : decode cX2_init 97 = .ok (.aload_n 0, 1) := by decide +kernel
theorem dX2_init_98 : decode cX2_init 98 = .ok (.lload_n 3, 1) := by decide +kernel
theorem dX2_init_99 : decode cX2_init 99 = .ok (.putfield 19, 3) := by decide +kernel
theorem dX2_init_102 : decode cX2_init 102 = .ok (.aload_n 0, 1) := by decide +kernel
theorem dX2_init_103 : decode cX2_init 103 = .ok (.lload_n 3, 1) := by decide +kernel
theorem dX2_init_104 : decode cX2_init 104 = .ok (.lload 5, 2) := by decide +kernel
theorem dX2_init_106 : decode cX2_init 106 = .ok (.ldc2_w 23, 3) := by decide +kernel
theorem dX2_init_109 : decode cX2_init 109 = .ok (.lxor, 1) := by decide +kernel
theorem dX2_init_110 : decode cX2_init 110 = .ok (.land, 1) := by decide +kernel
theorem dX2_init_111 : decode cX2_init 111 = .ok (.putfield 25, 3) := by decide +kernel
theorem dX2_init_114 : decode cX2_init 114 = .ok (.aload_n 0, 1) := by decide +kernel
theorem dX2_init_115 : decode cX2_init 115 = .ok (.lload_n 3, 1) := by decide +kernel
theorem dX2_init_116 : decode cX2_init 116 = .ok (.lload 7, 2) := by decide +kernel
theorem dX2_init_118 : decode cX2_init 118 = .ok (.ldc2_w 23, 3) := by decide +kernel
theorem dX2_init_121 : decode cX2_init 121 = .ok (.lxor, 1) := by decide +kernel
theorem dX2_init_122 : decode cX2_init 122 = .ok (.land, 1) := by decide +kernel
theorem dX2_init_123 : decode cX2_init 123 = .ok (.putfield 28, 3) := by decide +kernel
theorem dX2_init_126 : decode cX2_init 126 = .ok (.return_, 1) := by decide +kernel
theorem dX2_has_0 : decode cX2_has 0 = .ok (.iload_n 1, 1) := by decide +kernel
theorem dX2_has_1 : decode cX2_has 1 = .ok (.ifCond .lt 15, 3) := by decide +kernel
theorem dX2_has_4 : decode cX2_has 4 = .ok (.iload_n 1, 1) := by decide +kernel
theorem dX2_has_5 : decode cX2_has 5 = .ok (.aload_n 0, 1) := by decide +kernel
theorem dX2_has_6 : decode cX2_has 6 = .ok (.getfield 16, 3) := by decide +kernel
theorem dX2_has_9 : decode cX2_has 9 = .ok (.if_icmp .ge 7, 3) := by decide +kernel
theorem dX2_has_12 : decode cX2_has 12 = .ok (.iconst 1, 1) := by decide +kernel
theorem dX2_has_13 : decode cX2_has 13 = .ok (.goto 4, 3) := by decide +kernel
theorem dX2_has_16 : decode cX2_has 16 = .ok (.iconst 0, 1) := by decide +kernel
theorem dX2_has_17 : decode cX2_has 17 = .ok (.ireturn, 1) := by decide +kernel
theorem dX2_spread_0 : decode cX2_spread 0 = .ok (.lload_n 1, 1) := by decide +kernel
theorem dX2_spread_1 : decode cX2_spread 1 = .ok (.aload_n 0, 1) := by decide +kernel
theorem dX2_spread_2 : decode cX2_spread 2 = .ok (.getfield 28, 3) := by decide +kernel
theorem dX2_spread_5 : decode cX2_spread 5 = .ok (.land, 1) := by decide +kernel
theorem dX2_spread_6 : decode cX2_spread 6 = .ok (.iconst 1, 1) := by decide +kernel
theorem dX2_spread_7 : decode cX2_spread 7 = .ok (.lshl, 1) := by decide +kernel
theorem dX2_spread_8 : decode cX2_spread 8 = .ok (.lload_n 1, 1) := by decide +kernel
theorem dX2_spread_9 : decode cX2_spread 9 = .ok (.aload_n 0, 1) := by decide +kernel
theorem dX2_spread_10 : decode cX2_spread 10 = .ok (.getfield 25, 3) := by decide +kernel
theorem dX2_spread_13 : decode cX2_spread 13 = .ok (.land, 1) := by decide +kernel
theorem dX2_spread_14 : decode cX2_spread 14 = .ok (.iconst 1, 1) := by decide +kernel
theorem dX2_spread_15 : decode cX2_spread 15 = .ok (.lushr, 1) := by decide +kernel
theorem dX2_spread_16 : decode cX2_spread 16 = .ok (.lor, 1) := by decide +kernel
theorem dX2_spread_17 : decode cX2_spread 17 = .ok (.lstore_n 3, 1) := by decide +kernel
theorem dX2_spread_18 : decode cX2_spread 18 = .ok (.lload_n 3, 1) := by decide +kernel
theorem dX2_spread_19 : decode cX2_spread 19 = .ok (.lload_n 1, 1) := by decide +kernel
theorem dX2_spread_20 : decode cX2_spread 20 = .ok (.aload_n 0, 1) := by decide +kernel
theorem dX2_spread_21 : decode cX2_spread 21 = .ok (.getfield 7, 3) := by decide +kernel
theorem dX2_spread_24 : decode cX2_spread 24 = .ok (.lshl, 1) := by decide +kernel
theorem dX2_spread_25 : decode cX2_spread 25 = .ok (.lor, 1) := by decide +kernel
theorem dX2_spread_26 : decode cX2_spread 26 = .ok (.lload_n 1, 1) := by decide +kernel
theorem dX2_spread_27 : decode cX2_spread 27 = .ok (.aload_n 0, 1) := by decide +kernel
theorem dX2_spread_28 : decode cX2_spread 28 = .ok (.getfield 7, 3) := by decide +kernel
theorem dX2_spread_31 : decode cX2_spread 31 = .ok (.lushr, 1) := by decide +kernel
theorem dX2_spread_32 : decode cX2_spread 32 = .ok (.lor, 1) := by decide +kernel
theorem dX2_spread_33 : decode cX2_spread 33 = .ok (.aload_n 0, 1) := by decide +kernel
theorem dX2_spread_34 : decode cX2_spread 34 = .ok (.getfield 19, 3) := by decide +kernel
theorem dX2_spread_37 : decode cX2_spread 37 = .ok (.land, 1) := by decide +kernel
theorem dX2_spread_38 : decode cX2_spread 38 = .ok (.lreturn, 1) := by decide +kernel
theorem dX2_step_0 : decode cX2_step 0 = .ok (.iload_n 1, 1) := by decide +kernel
theorem dX2_step_1 : decode cX2_step 1 = .ok (.iconst 2, 1) := by decide +kernel
theorem dX2_step_2 : decode cX2_step 2 = .ok (.if_icmp .ge 7, 3) := by decide +kernel
theorem dX2_step_5 : decode cX2_step 5 = .ok (.iconst 1, 1) := by decide +kernel
theorem dX2_step_6 : decode cX2_step 6 = .ok (.goto 7, 3) := by decide +kernel
theorem dX2_step_9 : decode cX2_step 9 = .ok (.aload_n 0, 1) := by decide +kernel
theorem dX2_step_10 : decode cX2_step 10 = .ok (.getfield 7, 3) := by decide +kernel
theorem dX2_step_13 : decode cX2_step 13 = .ok (.istore_n 2, 1) := by decide +kernel
theorem dX2_step_14 : decode cX2_step 14 = .ok (.iload_n 1, 1) := by decide +kernel
theorem dX2_step_15 : decode cX2_step 15 = .ok (.iconst 1, 1) := by decide +kernel
theorem dX2_step_16 : decode cX2_step 16 = .ok (.iand, 1) := by decide +kernel
theorem dX2_step_17 : decode cX2_step 17 = .ok (.ifCond .ne 7, 3) := by decide +kernel
theorem dX2_step_20 : decode cX2_step 20 = .ok (.iload_n 2, 1) := by decide +kernel
theorem dX2_step_21 : decode cX2_step 21 = .ok (.goto 5, 3) := by decide +kernel
theorem dX2_step_24 : decode cX2_step 24 = .ok (.iload_n 2, 1) := by decide +kernel
theorem dX2_step_25 : decode cX2_step 25 = .ok (.ineg, 1) := by decide +kernel
theorem dX2_step_26 : decode cX2_step 26 = .ok (.ireturn, 1) := by decide +kernel
theorem dX2_holds_0 : decode cX2_holds 0 = .ok (.iload_n 1, 1) := by decide +kernel
theorem dX2_holds_1 : decode cX2_holds 1 = .ok (.iconst 1, 1) := by decide +kernel
theorem dX2_holds_2 : decode cX2_holds 2 = .ok (.aload_n 0, 1) := by decide +kernel
theorem dX2_holds_3 : decode cX2_holds 3 = .ok (.getfield 7, 3) := by decide +kernel
theorem dX2_holds_6 : decode cX2_holds 6 = .ok (.invokestatic 31, 3) := by decide +kernel
theorem dX2_holds_9 : decode cX2_holds 9 = .ok (.idiv, 1) := by decide +kernel
theorem dX2_holds_10 : decode cX2_holds 10 = .ok (.istore 4, 2) := by decide +kernel
theorem dX2_holds_12 : decode cX2_holds 12 = .ok (.iload_n 2, 1) := by decide +kernel
theorem dX2_holds_13 : decode cX2_holds 13 = .ok (.iconst 2, 1) := by decide +kernel
theorem dX2_holds_14 : decode cX2_holds 14 = .ok (.if_icmp .ge 15, 3) := by decide +kernel
theorem dX2_holds_17 : decode cX2_holds 17 = .ok (.iload_n 1, 1) := by decide +kernel
theorem dX2_holds_18 : decode cX2_holds 18 = .ok (.iload 4, 2) := by decide +kernel
theorem dX2_holds_20 : decode cX2_holds 20 = .ok (.aload_n 0, 1) := by decide +kernel
theorem dX2_holds_21 : decode cX2_holds 21 = .ok (.getfield 7, 3) := by decide +kernel
theorem dX2_holds_24 : decode cX2_holds 24 = .ok (.imul, 1) := by decide +kernel
theorem dX2_holds_25 : decode cX2_holds 25 = .ok (.isub, 1) := by decide +kernel
theorem dX2_holds_26 : decode cX2_holds 26 = .ok (.goto 5, 3) := by decide +kernel
theorem dX2_holds_29 : decode cX2_holds 29 = .ok (.iload 4, 2) := by decide +kernel
theorem dX2_holds_31 : decode cX2_holds 31 = .ok (.istore 5, 2) := by decide +kernel
theorem dX2_holds_33 : decode cX2_holds 33 = .ok (.iload_n 2, 1) := by decide +kernel
theorem dX2_holds_34 : decode cX2_holds 34 = .ok (.iconst 2, 1) := by decide +kernel
theorem dX2_holds_35 : decode cX2_holds 35 = .ok (.if_icmp .ge 10, 3) := by decide +kernel
theorem dX2_holds_38 : decode cX2_holds 38 = .ok (.aload_n 0, 1) := by decide +kernel
theorem dX2_holds_39 : decode cX2_holds 39 = .ok (.getfield 7, 3) := by decide +kernel
theorem dX2_holds_42 : decode cX2_holds 42 = .ok (.goto 7, 3) := by decide +kernel
theorem dX2_holds_45 : decode cX2_holds 45 = .ok (.aload_n 0, 1) := by decide +kernel
theorem dX2_holds_46 : decode cX2_holds 46 = .ok (.getfield 13, 3) := by decide +kernel
theorem dX2_holds_49 : decode cX2_holds 49 = .ok (.istore 6, 2) := by decide +kernel
theorem dX2_holds_51 : decode cX2_holds 51 = .ok (.iload_n 2, 1) := by decide +kernel
theorem dX2_holds_52 : decode cX2_holds 52 = .ok (.iconst 1, 1) := by decide +kernel
theorem dX2_holds_53 : decode cX2_holds 53 = .ok (.iand, 1) := by decide +kernel
theorem dX2_holds_54 : decode cX2_holds 54 = .ok (.ifCond .ne 20, 3) := by decide +kernel
theorem dX2_holds_57 : decode cX2_holds 57 = .ok (.iload 5, 2) := by decide +kernel
theorem dX2_holds_59 : decode cX2_holds 59 = .ok (.iload_n 3, 1) := by decide +kernel
theorem dX2_holds_60 : decode cX2_holds 60 = .ok (.iadd, 1) := by decide +kernel
theorem dX2_holds_61 : decode cX2_holds 61 = .ok (.iload 6, 2) := by decide +kernel
theorem dX2_holds_63 : decode cX2_holds 63 = .ok (.if_icmp .gt 7, 3) := by decide +kernel
theorem dX2_holds_66 : decode cX2_holds 66 = .ok (.iconst 1, 1) := by decide +kernel
theorem dX2_holds_67 : decode cX2_holds 67 = .ok (.goto 20, 3) := by decide +kernel
theorem dX2_holds_70 : decode cX2_holds 70 = .ok (.iconst 0, 1) := by decide +kernel
theorem dX2_holds_71 : decode cX2_holds 71 = .ok (.goto 16, 3) := by decide +kernel
theorem dX2_holds_74 : decode cX2_holds 74 = .ok (.iload 5, 2) := by decide +kernel
theorem dX2_holds_76 : decode cX2_holds 76 = .ok (.iload_n 3, 1) := by decide +kernel
theorem dX2_holds_77 : decode cX2_holds 77 = .ok (.isub, 1) := by decide +kernel
theorem dX2_holds_78 : decode cX2_holds 78 = .ok (.iconst (-1), 1) := by decide +kernel
theorem dX2_holds_79 : decode cX2_holds 79 = .ok (.if_icmp .lt 7, 3) := by decide +kernel
theorem dX2_holds_82 : decode cX2_holds 82 = .ok (.iconst 1, 1) := by decide +kernel
theorem dX2_holds_83 : decode cX2_holds 83 = .ok (.goto 4, 3) := by decide +kernel
theorem dX2_holds_86 : decode cX2_holds 86 = .ok (.iconst 0, 1) := by decide +kernel
theorem dX2_holds_87 : decode cX2_holds 87 = .ok (.ireturn, 1) := by decide +kernel
theorem dX3_init_0 : decode cX3_init 0 = .ok (.aload_n 0, 1) := by decide +kernel
theorem dX3_init_1 : decode cX3_init 1 = .ok (.invokespecial 3, 3) := by decide +kernel
theorem dX3_init_4 : decode cX3_init 4 = .ok (.aload_n 0, 1) := by decide +kernel
theorem dX3_init_5 : decode cX3_init 5 = .ok (.bipush 64, 2) := by decide +kernel
theorem dX3_init_7 : decode cX3_init 7 = .ok (.newarray .int, 2) := by decide +kernel
theorem dX3_init_9 : decode cX3_init 9 = .ok (.putfield 9, 3) := by decide +kernel
theorem dX3_init_12 : decode cX3_init 12 = .ok (.aload_n 0, 1) := by decide +kernel
theorem dX3_init_13 : decode cX3_init 13 = .ok (.bipush 64, 2) := by decide +kernel
theorem dX3_init_15 : decode cX3_init 15 = .ok (.newarray .int, 2) := by decide +kernel
theorem dX3_init_17 : decode cX3_init 17 = .ok (.putfield 15, 3) := by decide +kernel
theorem dX3_init_20 : decode cX3_init 20 = .ok (.aload_n 0, 1) := by decide +kernel
theorem dX3_init_21 : decode cX3_init 21 = .ok (.bipush 64, 2) := by decide +kernel
theorem dX3_init_23 : decode cX3_init 23 = .ok (.newarray .int, 2) := by decide +kernel
theorem dX3_init_25 : decode cX3_init 25 = .ok (.putfield 18, 3) := by decide +kernel
theorem dX3_init_28 : decode cX3_init 28 = .ok (.aload_n 0, 1) := by decide +kernel
theorem dX3_init_29 : decode cX3_init 29 = .ok (.bipush 100, 2) := by decide +kernel
theorem dX3_init_31 : decode cX3_init 31 = .ok (.newarray .long, 2) := by decide +kernel
theorem dX3_init_33 : decode cX3_init 33 = .ok (.putfield 21, 3) := by decide +kernel
theorem dX3_init_36 : decode cX3_init 36 = .ok (.aload_n 0, 1) := by decide +kernel
theorem dX3_init_37 : decode cX3_init 37 = .ok (.iconst 3, 1) := by decide +kernel
theorem dX3_init_38 : decode cX3_init 38 = .ok (.putfield 25, 3) := by decide +kernel
theorem dX3_init_41 : decode cX3_init 41 = .ok (.aload_n 0, 1) := by decide +kernel
theorem dX3_init_42 : decode cX3_init 42 = .ok (.bipush 10, 2) := by decide +kernel
theorem dX3_init_44 : decode cX3_init 44 = .ok (.putfield 29, 3) := by decide +kernel
theorem dX3_init_47 : decode cX3_init 47 = .ok (.aload_n 0, 1) := by decide +kernel
theorem dX3_init_48 : decode cX3_init 48 = .ok (.bipush 6, 2) := by decide +kernel
theorem dX3_init_50 : decode cX3_init 50 = .ok (.putfield 32, 3) := by decide +kernel
theorem dX3_init_53 : decode cX3_init 53 = .ok (.aload_n 0, 1) := by decide +kernel
theorem dX3_init_54 : decode cX3_init 54 = .ok (.aload_n 1, 1) := by decide +kernel
theorem dX3_init_55 : decode cX3_init 55 = .ok (.putfield 35, 3) := by decide +kernel
theorem dX3_init_58 : decode cX3_init 58 = .ok (.return_, 1) := by decide +kernel
theorem dX3_take_0 : decode cX3_take 0 = .ok (.aload_n 1, 1) := by decide +kernel
theorem dX3_take_1 : decode cX3_take 1 = .ok (.getfield 9, 3) := by decide +kernel
theorem dX3_take_4 : decode cX3_take 4 = .ok (.iconst 0, 1) := by decide +kernel
theorem dX3_take_5 : decode cX3_take 5 = .ok (.aload_n 0, 1) := by decide +kernel
theorem dX3_take_6 : decode cX3_take 6 = .ok (.getfield 9, 3) := by decide +kernel
theorem dX3_take_9 : decode cX3_take 9 = .ok (.iconst 0, 1) := by decide +kernel
theorem dX3_take_10 : decode cX3_take 10 = .ok (.bipush 64, 2) := by decide +kernel
theorem dX3_take_12 : decode cX3_take 12 = .ok (.invokestatic 39, 3) := by decide +kernel
theorem dX3_take_15 : decode cX3_take 15 = .ok (.aload_n 1, 1) := by decide +kernel
theorem dX3_take_16 : decode cX3_take 16 = .ok (.getfield 15, 3) := by decide +kernel
theorem dX3_take_19 : decode cX3_take 19 = .ok (.iconst 0, 1) := by decide +kernel
theorem dX3_take_20 : decode cX3_take 20 = .ok (.aload_n 0, 1) := by decide +kernel
theorem dX3_take_21 : decode cX3_take 21 = .ok (.getfield 15, 3) := by decide +kernel
theorem dX3_take_24 : decode cX3_take 24 = .ok (.iconst 0, 1) := by decide +kernel
theorem dX3_take_25 : decode cX3_take 25 = .ok (.bipush 64, 2) := by decide +kernel
theorem dX3_take_27 : decode cX3_take 27 = .ok (.invokestatic 39, 3) := by decide +kernel
theorem dX3_take_30 : decode cX3_take 30 = .ok (.aload_n 1, 1) := by decide +kernel
theorem dX3_take_31 : decode cX3_take 31 = .ok (.getfield 18, 3) := by decide +kernel
theorem dX3_take_34 : decode cX3_take 34 = .ok (.iconst 0, 1) := by decide +kernel
theorem dX3_take_35 : decode cX3_take 35 = .ok (.aload_n 0, 1) := by decide +kernel
theorem dX3_take_36 : decode cX3_take 36 = .ok (.getfield 18, 3) := by decide +kernel
theorem dX3_take_39 : decode cX3_take 39 = .ok (.iconst 0, 1) := by decide +kernel
theorem dX3_take_40 : decode cX3_take 40 = .ok (.bipush 64, 2) := by decide +kernel
theorem dX3_take_42 : decode cX3_take 42 = .ok (.invokestatic 39, 3) := by decide +kernel
theorem dX3_take_45 : decode cX3_take 45 = .ok (.aload_n 1, 1) := by decide +kernel
theorem dX3_take_46 : decode cX3_take 46 = .ok (.getfield 21, 3) := by decide +kernel
theorem dX3_take_49 : decode cX3_take 49 = .ok (.iconst 0, 1) := by decide +kernel
theorem dX3_take_50 : decode cX3_take 50 = .ok (.aload_n 0, 1) := by decide +kernel
theorem dX3_take_51 : decode cX3_take 51 = .ok (.getfield 21, 3) := by decide +kernel
theorem dX3_take_54 : decode cX3_take 54 = .ok (.iconst 0, 1) := by decide +kernel
theorem dX3_take_55 : decode cX3_take 55 = .ok (.bipush 100, 2) := by decide +kernel
theorem dX3_take_57 : decode cX3_take 57 = .ok (.invokestatic 39, 3) := by decide +kernel
theorem dX3_take_60 : decode cX3_take 60 = .ok (.aload_n 0, 1) := by decide +kernel
theorem dX3_take_61 : decode cX3_take 61 = .ok (.aload_n 1, 1) := by decide +kernel
theorem dX3_take_62 : decode cX3_take 62 = .ok (.getfield 45, 3) := by decide +kernel
theorem dX3_take_65 : decode cX3_take 65 = .ok (.putfield 45, 3) := by decide +kernel
theorem dX3_take_68 : decode cX3_take 68 = .ok (.aload_n 0, 1) := by decide +kernel
theorem dX3_take_69 : decode cX3_take 69 = .ok (.aload_n 1, 1) := by decide +kernel
theorem dX3_take_70 : decode cX3_take 70 = .ok (.getfield 49, 3) := by decide +kernel
theorem dX3_take_73 : decode cX3_take 73 = .ok (.putfield 49, 3) := by decide +kernel
theorem dX3_take_76 : decode cX3_take 76 = .ok (.aload_n 0, 1) := by decide +kernel
theorem dX3_take_77 : decode cX3_take 77 = .ok (.aload_n 1, 1) := by decide +kernel
theorem dX3_take_78 : decode cX3_take 78 = .ok (.getfield 52, 3) := by decide +kernel
theorem dX3_take_81 : decode cX3_take 81 = .ok (.putfield 52, 3) := by decide +kernel
theorem dX3_take_84 : decode cX3_take 84 = .ok (.aload_n 0, 1) := by decide +kernel
theorem dX3_take_85 : decode cX3_take 85 = .ok (.aload_n 1, 1) := by decide +kernel
theorem dX3_take_86 : decode cX3_take 86 = .ok (.getfield 25, 3) := by decide +kernel
theorem dX3_take_89 : decode cX3_take 89 = .ok (.putfield 25, 3) := by decide +kernel
theorem dX3_take_92 : decode cX3_take 92 = .ok (.aload_n 0, 1) := by decide +kernel
theorem dX3_take_93 : decode cX3_take 93 = .ok (.aload_n 1, 1) := by decide +kernel
theorem dX3_take_94 : decode cX3_take 94 = .ok (.getfield 29, 3) := by decide +kernel
theorem dX3_take_97 : decode cX3_take 97 = .ok (.putfield 29, 3) := by decide +kernel
theorem dX3_take_100 : decode cX3_take 100 = .ok (.aload_n 0, 1) := by decide +kernel
theorem dX3_take_101 : decode cX3_take 101 = .ok (.aload_n 1, 1) := by decide +kernel
theorem dX3_take_102 : decode cX3_take 102 = .ok (.getfield 32, 3) := by decide +kernel
theorem dX3_take_105 : decode cX3_take 105 = .ok (.putfield 32, 3) := by decide +kernel
theorem dX3_take_108 : decode cX3_take 108 = .ok (.return_, 1) := by decide +kernel
theorem dX3_tell_0 : decode cX3_tell 0 = .ok (.aload_n 0, 1) := by decide +kernel
theorem dX3_tell_1 : decode cX3_tell 1 = .ok (.getfield 9, 3) := by decide +kernel
theorem dX3_tell_4 : decode cX3_tell 4 = .ok (.iload_n 1, 1) := by decide +kernel
theorem dX3_tell_5 : decode cX3_tell 5 = .ok (.iload_n 2, 1) := by decide +kernel
theorem dX3_tell_6 : decode cX3_tell 6 = .ok (.iastore, 1) := by decide +kernel
theorem dX3_tell_7 : decode cX3_tell 7 = .ok (.aload_n 0, 1) := by decide +kernel
theorem dX3_tell_8 : decode cX3_tell 8 = .ok (.getfield 15, 3) := by decide +kernel
theorem dX3_tell_11 : decode cX3_tell 11 = .ok (.iload_n 1, 1) := by decide +kernel
theorem dX3_tell_12 : decode cX3_tell 12 = .ok (.iload_n 3, 1) := by decide +kernel
theorem dX3_tell_13 : decode cX3_tell 13 = .ok (.iastore, 1) := by decide +kernel
theorem dX3_tell_14 : decode cX3_tell 14 = .ok (.aload_n 0, 1) := by decide +kernel
theorem dX3_tell_15 : decode cX3_tell 15 = .ok (.dup, 1) := by decide +kernel
theorem dX3_tell_16 : decode cX3_tell 16 = .ok (.getfield 45, 3) := by decide +kernel
theorem dX3_tell_19 : decode cX3_tell 19 = .ok (.iload_n 1, 1) := by decide +kernel
theorem dX3_tell_20 : decode cX3_tell 20 = .ok (.invokestatic 55, 3) := by decide +kernel
theorem dX3_tell_23 : decode cX3_tell 23 = .ok (.ldc2_w 59, 3) := by decide +kernel
theorem dX3_tell_26 : decode cX3_tell 26 = .ok (.lxor, 1) := by decide +kernel
theorem dX3_tell_27 : decode cX3_tell 27 = .ok (.land, 1) := by decide +kernel
theorem dX3_tell_28 : decode cX3_tell 28 = .ok (.putfield 45, 3) := by decide +kernel
theorem dX3_tell_31 : decode cX3_tell 31 = .ok (.aload_n 0, 1) := by decide +kernel
theorem dX3_tell_32 : decode cX3_tell 32 = .ok (.dup, 1) := by decide +kernel
theorem dX3_tell_33 : decode cX3_tell 33 = .ok (.getfield 49, 3) := by decide +kernel
theorem dX3_tell_36 : decode cX3_tell 36 = .ok (.iload_n 1, 1) := by decide +kernel
theorem dX3_tell_37 : decode cX3_tell 37 = .ok (.invokestatic 55, 3) := by decide +kernel
theorem dX3_tell_40 : decode cX3_tell 40 = .ok (.ldc2_w 59, 3) := by decide +kernel
theorem dX3_tell_43 : decode cX3_tell 43 = .ok (.lxor, 1) := by decide +kernel
theorem dX3_tell_44 : decode cX3_tell 44 = .ok (.land, 1) := by decide +kernel
theorem dX3_tell_45 : decode cX3_tell 45 = .ok (.putfield 49, 3) := by decide +kernel
theorem dX3_tell_48 : decode cX3_tell 48 = .ok (.iload_n 2, 1) := by decide +kernel
theorem dX3_tell_49 : decode cX3_tell 49 = .ok (.iconst 3, 1) := by decide +kernel
theorem dX3_tell_50 : decode cX3_tell 50 = .ok (.if_icmp .ne 16, 3) := by decide +kernel
theorem dX3_tell_53 : decode cX3_tell 53 = .ok (.aload_n 0, 1) := by decide +kernel
theorem dX3_tell_54 : decode cX3_tell 54 = .ok (.dup, 1) := by decide +kernel
theorem dX3_tell_55 : decode cX3_tell 55 = .ok (.getfield 45, 3) := by decide +kernel
theorem dX3_tell_58 : decode cX3_tell 58 = .ok (.iload_n 1, 1) := by decide +kernel
theorem dX3_tell_59 : decode cX3_tell 59 = .ok (.invokestatic 55, 3) := by decide +kernel
theorem dX3_tell_62 : decode cX3_tell 62 = .ok (.lor, 1) := by decide +kernel
theorem dX3_tell_63 : decode cX3_tell 63 = .ok (.putfield 45, 3) := by decide +kernel
theorem dX3_tell_66 : decode cX3_tell 66 = .ok (.iload_n 3, 1) := by decide +kernel
theorem dX3_tell_67 : decode cX3_tell 67 = .ok (.ifCond .le 16, 3) := by decide +kernel
theorem dX3_tell_70 : decode cX3_tell 70 = .ok (.aload_n 0, 1) := by decide +kernel
theorem dX3_tell_71 : decode cX3_tell 71 = .ok (.dup, 1) := by decide +kernel
theorem dX3_tell_72 : decode cX3_tell 72 = .ok (.getfield 49, 3) := by decide +kernel
theorem dX3_tell_75 : decode cX3_tell 75 = .ok (.iload_n 1, 1) := by decide +kernel
theorem dX3_tell_76 : decode cX3_tell 76 = .ok (.invokestatic 55, 3) := by decide +kernel
theorem dX3_tell_79 : decode cX3_tell 79 = .ok (.lor, 1) := by decide +kernel
theorem dX3_tell_80 : decode cX3_tell 80 = .ok (.putfield 49, 3) := by decide +kernel
theorem dX3_tell_83 : decode cX3_tell 83 = .ok (.return_, 1) := by decide +kernel
theorem dX3_runSand_0 : decode cX3_runSand 0 = .ok (.iload_n 1, 1) := by decide +kernel
theorem dX3_runSand_1 : decode cX3_runSand 1 = .ok (.invokestatic 55, 3) := by decide +kernel
theorem dX3_runSand_4 : decode cX3_runSand 4 = .ok (.lstore 4, 2) := by decide +kernel
theorem dX3_runSand_6 : decode cX3_runSand 6 = .ok (.lload 4, 2) := by decide +kernel
theorem dX3_runSand_8 : decode cX3_runSand 8 = .ok (.lstore 6, 2) := by decide +kernel
theorem dX3_runSand_10 : decode cX3_runSand 10 = .ok (.iload_n 2, 1) := by decide +kernel
theorem dX3_runSand_11 : decode cX3_runSand 11 = .ok (.istore 8, 2) := by decide +kernel
theorem dX3_runSand_13 : decode cX3_runSand 13 = .ok (.iconst 0, 1) := by decide +kernel
theorem dX3_runSand_14 : decode cX3_runSand 14 = .ok (.istore 9, 2) := by decide +kernel
theorem dX3_runSand_16 : decode cX3_runSand 16 = .ok (.iload 9, 2) := by decide +kernel
theorem dX3_runSand_18 : decode cX3_runSand 18 = .ok (.bipush 64, 2) := by decide +kernel
theorem dX3_runSand_20 : decode cX3_runSand 20 = .ok (.if_icmp .ge 61, 3) := by decide +kernel
theorem dX3_runSand_23 : decode cX3_runSand 23 = .ok (.lload 6, 2) := by decide +kernel
theorem dX3_runSand_25 : decode cX3_runSand 25 = .ok (.lconst 0, 1) := by decide +kernel
theorem dX3_runSand_26 : decode cX3_runSand 26 = .ok (.lcmp, 1) := by decide +kernel
theorem dX3_runSand_27 : decode cX3_runSand 27 = .ok (.ifCond .eq 54, 3) := by decide +kernel
theorem dX3_runSand_30 : decode cX3_runSand 30 = .ok (.iload 8, 2) := by decide +kernel
theorem dX3_runSand_32 : decode cX3_runSand 32 = .ok (.ifCond .le 49, 3) := by decide +kernel
theorem dX3_runSand_35 : decode cX3_runSand 35 = .ok (.aload_n 0, 1) := by decide +kernel
theorem dX3_runSand_36 : decode cX3_runSand 36 = .ok (.lload 6, 2) := by decide +kernel
theorem dX3_runSand_38 : decode cX3_runSand 38 = .ok (.iload 8, 2) := by decide +kernel
theorem dX3_runSand_40 : decode cX3_runSand 40 = .ok (.invokevirtual 61, 3) := by decide +kernel
theorem dX3_runSand_43 : decode cX3_runSand 43 = .ok (.istore 8, 2) := by decide +kernel
theorem dX3_runSand_45 : decode cX3_runSand 45 = .ok (.aload_n 0, 1) := by decide +kernel
theorem dX3_runSand_46 : decode cX3_runSand 46 = .ok (.getfield 35, 3) := by decide +kernel
theorem dX3_runSand_49 : decode cX3_runSand 49 = .ok (.lload 6, 2) := by decide +kernel
theorem dX3_runSand_51 : decode cX3_runSand 51 = .ok (.invokevirtual 65, 3) := by decide +kernel
theorem dX3_runSand_54 : decode cX3_runSand 54 = .ok (.aload_n 0, 1) := by decide +kernel
theorem dX3_runSand_55 : decode cX3_runSand 55 = .ok (.getfield 45, 3) := by decide +kernel
theorem dX3_runSand_58 : decode cX3_runSand 58 = .ok (.land, 1) := by decide +kernel
theorem dX3_runSand_59 : decode cX3_runSand 59 = .ok (.lload 4, 2) := by decide +kernel
theorem dX3_runSand_61 : decode cX3_runSand 61 = .ok (.ldc2_w 59, 3) := by decide +kernel
theorem dX3_runSand_64 : decode cX3_runSand 64 = .ok (.lxor, 1) := by decide +kernel
theorem dX3_runSand_65 : decode cX3_runSand 65 = .ok (.land, 1) := by decide +kernel
theorem dX3_runSand_66 : decode cX3_runSand 66 = .ok (.lstore 6, 2) := by decide +kernel
theorem dX3_runSand_68 : decode cX3_runSand 68 = .ok (.lload 4, 2) := by decide +kernel
theorem dX3_runSand_70 : decode cX3_runSand 70 = .ok (.lload 6, 2) := by decide +kernel
theorem dX3_runSand_72 : decode cX3_runSand 72 = .ok (.lor, 1) := by decide +kernel
theorem dX3_runSand_73 : decode cX3_runSand 73 = .ok (.lstore 4, 2) := by decide +kernel
theorem dX3_runSand_75 : decode cX3_runSand 75 = .ok (.iinc 9 1, 3) := by decide +kernel
theorem dX3_runSand_78 : decode cX3_runSand 78 = .ok (.goto (-62), 3) := by decide +kernel
theorem dX3_runSand_81 : decode cX3_runSand 81 = .ok (.aload_n 0, 1) := by decide +kernel
theorem dX3_runSand_82 : decode cX3_runSand 82 = .ok (.dup, 1) := by decide +kernel
theorem dX3_runSand_83 : decode cX3_runSand 83 = .ok (.getfield 52, 3) := by decide +kernel
theorem dX3_runSand_86 : decode cX3_runSand 86 = .ok (.iconst 1, 1) := by decide +kernel
theorem dX3_runSand_87 : decode cX3_runSand 87 = .ok (.iadd, 1) := by decide +kernel
theorem dX3_runSand_88 : decode cX3_runSand 88 = .ok (.putfield 52, 3) := by decide +kernel
theorem dX3_runSand_91 : decode cX3_runSand 91 = .ok (.aload_n 0, 1) := by decide +kernel
theorem dX3_runSand_92 : decode cX3_runSand 92 = .ok (.iload_n 3, 1) := by decide +kernel
theorem dX3_runSand_93 : decode cX3_runSand 93 = .ok (.invokevirtual 71, 3) := by decide +kernel
theorem dX3_runSand_96 : decode cX3_runSand 96 = .ok (.iload 8, 2) := by decide +kernel
theorem dX3_runSand_98 : decode cX3_runSand 98 = .ok (.ireturn, 1) := by decide +kernel
theorem dX3_fillLayer_0 : decode cX3_fillLayer 0 = .ok (.iload_n 3, 1) := by decide +kernel
theorem dX3_fillLayer_1 : decode cX3_fillLayer 1 = .ok (.istore 4, 2) := by decide +kernel
theorem dX3_fillLayer_3 : decode cX3_fillLayer 3 = .ok (.lload_n 1, 1) := by decide +kernel
theorem dX3_fillLayer_4 : decode cX3_fillLayer 4 = .ok (.lstore 5, 2) := by decide +kernel
theorem dX3_fillLayer_6 : decode cX3_fillLayer 6 = .ok (.iconst 0, 1) := by decide +kernel
theorem dX3_fillLayer_7 : decode cX3_fillLayer 7 = .ok (.istore 7, 2) := by decide +kernel
theorem dX3_fillLayer_9 : decode cX3_fillLayer 9 = .ok (.iload 7, 2) := by decide +kernel
theorem dX3_fillLayer_11 : decode cX3_fillLayer 11 = .ok (.bipush 64, 2) := by decide +kernel
theorem dX3_fillLayer_13 : decode cX3_fillLayer 13 = .ok (.if_icmp .ge 73, 3) := by decide +kernel
theorem dX3_fillLayer_16 : decode cX3_fillLayer 16 = .ok (.lload 5, 2) := by decide +kernel
theorem dX3_fillLayer_18 : decode cX3_fillLayer 18 = .ok (.lconst 0, 1) := by decide +kernel
theorem dX3_fillLayer_19 : decode cX3_fillLayer 19 = .ok (.lcmp, 1) := by decide +kernel
theorem dX3_fillLayer_20 : decode cX3_fillLayer 20 = .ok (.ifCond .eq 66, 3) := by decide +kernel
theorem dX3_fillLayer_23 : decode cX3_fillLayer 23 = .ok (.iload 4, 2) := by decide +kernel
theorem dX3_fillLayer_25 : decode cX3_fillLayer 25 = .ok (.ifCond .le 61, 3) := by decide +kernel
theorem dX3_fillLayer_28 : decode cX3_fillLayer 28 = .ok (.lload 5, 2) := by decide +kernel
theorem dX3_fillLayer_30 : decode cX3_fillLayer 30 = .ok (.invokestatic 75, 3) := by decide +kernel
theorem dX3_fillLayer_33 : decode cX3_fillLayer 33 = .ok (.istore 8, 2) := by decide +kernel
theorem dX3_fillLayer_35 : decode cX3_fillLayer 35 = .ok (.lload 5, 2) := by decide +kernel
theorem dX3_fillLayer_37 : decode cX3_fillLayer 37 = .ok (.lload 5, 2) := by decide +kernel
theorem dX3_fillLayer_39 : decode cX3_fillLayer 39 = .ok (.lconst 1, 1) := by decide +kernel
theorem dX3_fillLayer_40 : decode cX3_fillLayer 40 = .ok (.lsub, 1) := by decide +kernel
theorem dX3_fillLayer_41 : decode cX3_fillLayer 41 = .ok (.land, 1) := by decide +kernel
theorem dX3_fillLayer_42 : decode cX3_fillLayer 42 = .ok (.lstore 5, 2) := by decide +kernel
theorem dX3_fillLayer_44 : decode cX3_fillLayer 44 = .ok (.iload 4, 2) := by decide +kernel
theorem dX3_fillLayer_46 : decode cX3_fillLayer 46 = .ok (.bipush 20, 2) := by decide +kernel
theorem dX3_fillLayer_48 : decode cX3_fillLayer 48 = .ok (.aload_n 0, 1) := by decide +kernel
theorem dX3_fillLayer_49 : decode cX3_fillLayer 49 = .ok (.getfield 18, 3) := by decide +kernel
theorem dX3_fillLayer_52 : decode cX3_fillLayer 52 = .ok (.iload 8, 2) := by decide +kernel
theorem dX3_fillLayer_54 : decode cX3_fillLayer 54 = .ok (.iaload, 1) := by decide +kernel
theorem dX3_fillLayer_55 : decode cX3_fillLayer 55 = .ok (.isub, 1) := by decide +kernel
theorem dX3_fillLayer_56 : decode cX3_fillLayer 56 = .ok (.invokestatic 79, 3) := by decide +kernel
theorem dX3_fillLayer_59 : decode cX3_fillLayer 59 = .ok (.istore 9, 2) := by decide +kernel
theorem dX3_fillLayer_61 : decode cX3_fillLayer 61 = .ok (.aload_n 0, 1) := by decide +kernel
theorem dX3_fillLayer_62 : decode cX3_fillLayer 62 = .ok (.getfield 18, 3) := by decide +kernel
theorem dX3_fillLayer_65 : decode cX3_fillLayer 65 = .ok (.iload 8, 2) := by decide +kernel
theorem dX3_fillLayer_67 : decode cX3_fillLayer 67 = .ok (.dup2, 1) := by decide +kernel
theorem dX3_fillLayer_68 : decode cX3_fillLayer 68 = .ok (.iaload, 1) := by decide +kernel
theorem dX3_fillLayer_69 : decode cX3_fillLayer 69 = .ok (.iload 9, 2) := by decide +kernel
theorem dX3_fillLayer_71 : decode cX3_fillLayer 71 = .ok (.iadd, 1) := by decide +kernel
theorem dX3_fillLayer_72 : decode cX3_fillLayer 72 = .ok (.iastore, 1) := by decide +kernel
theorem dX3_fillLayer_73 : decode cX3_fillLayer 73 = .ok (.iload 4, 2) := by decide +kernel
