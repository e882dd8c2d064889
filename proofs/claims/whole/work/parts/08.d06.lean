theorem dX12_pull_21 : decode cX12_pull 21 = .ok (.iconst 1, 1) := by decide +kernel
theorem dX12_pull_22 : decode cX12_pull 22 = .ok (.ireturn, 1) := by decide +kernel
theorem dX12_gone_0 : decode cX12_gone 0 = .ok (.aload_n 0, 1) := by decide +kernel
theorem dX12_gone_1 : decode cX12_gone 1 = .ok (.iload_n 1, 1) := by decide +kernel
theorem dX12_gone_2 : decode cX12_gone 2 = .ok (.invokevirtual 169, 3) := by decide +kernel
theorem dX12_gone_5 : decode cX12_gone 5 = .ok (.ifCond .eq 20, 3) := by decide +kernel
theorem dX12_gone_8 : decode cX12_gone 8 = .ok (.aload_n 0, 1) := by decide +kernel
theorem dX12_gone_9 : decode cX12_gone 9 = .ok (.getfield 7, 3) := by decide +kernel
theorem dX12_gone_12 : decode cX12_gone 12 = .ok (.sipush 1200, 3) := by decide +kernel
theorem dX12_gone_15 : decode cX12_gone 15 = .ok (.iconst 5, 1) := by decide +kernel
theorem dX12_gone_16 : decode cX12_gone 16 = .ok (.iload_n 1, 1) := by decide +kernel
theorem dX12_gone_17 : decode cX12_gone 17 = .ok (.imul, 1) := by decide +kernel
theorem dX12_gone_18 : decode cX12_gone 18 = .ok (.iadd, 1) := by decide +kernel
theorem dX12_gone_19 : decode cX12_gone 19 = .ok (.iconst 4, 1) := by decide +kernel
theorem dX12_gone_20 : decode cX12_gone 20 = .ok (.iadd, 1) := by decide +kernel
theorem dX12_gone_21 : decode cX12_gone 21 = .ok (.iaload, 1) := by decide +kernel
theorem dX12_gone_22 : decode cX12_gone 22 = .ok (.goto 4, 3) := by decide +kernel
theorem dX12_gone_25 : decode cX12_gone 25 = .ok (.iconst (-1), 1) := by decide +kernel
theorem dX12_gone_26 : decode cX12_gone 26 = .ok (.ireturn, 1) := by decide +kernel
theorem dX12_kinGone_0 : decode cX12_kinGone 0 = .ok (.iconst 0, 1) := by decide +kernel
theorem dX12_kinGone_1 : decode cX12_kinGone 1 = .ok (.istore_n 2, 1) := by decide +kernel
theorem dX12_kinGone_2 : decode cX12_kinGone 2 = .ok (.iconst 0, 1) := by decide +kernel
theorem dX12_kinGone_3 : decode cX12_kinGone 3 = .ok (.istore_n 3, 1) := by decide +kernel
theorem dX12_kinGone_4 : decode cX12_kinGone 4 = .ok (.iload_n 3, 1) := by decide +kernel
theorem dX12_kinGone_5 : decode cX12_kinGone 5 = .ok (.aload_n 0, 1) := by decide +kernel
theorem dX12_kinGone_6 : decode cX12_kinGone 6 = .ok (.getfield 7, 3) := by decide +kernel
theorem dX12_kinGone_9 : decode cX12_kinGone 9 = .ok (.bipush 6, 2) := by decide +kernel
theorem dX12_kinGone_11 : decode cX12_kinGone 11 = .ok (.iaload, 1) := by decide +kernel
theorem dX12_kinGone_12 : decode cX12_kinGone 12 = .ok (.if_icmp .ge 52, 3) := by decide +kernel
theorem dX12_kinGone_15 : decode cX12_kinGone 15 = .ok (.iload_n 2, 1) := by decide +kernel
theorem dX12_kinGone_16 : decode cX12_kinGone 16 = .ok (.aload_n 0, 1) := by decide +kernel
theorem dX12_kinGone_17 : decode cX12_kinGone 17 = .ok (.getfield 7, 3) := by decide +kernel
theorem dX12_kinGone_20 : decode cX12_kinGone 20 = .ok (.sipush 1200, 3) := by decide +kernel
theorem dX12_kinGone_23 : decode cX12_kinGone 23 = .ok (.iconst 5, 1) := by decide +kernel
theorem dX12_kinGone_24 : decode cX12_kinGone 24 = .ok (.iload_n 3, 1) := by decide +kernel
theorem dX12_kinGone_25 : decode cX12_kinGone 25 = .ok (.imul, 1) := by decide +kernel
theorem dX12_kinGone_26 : decode cX12_kinGone 26 = .ok (.iadd, 1) := by decide +kernel
theorem dX12_kinGone_27 : decode cX12_kinGone 27 = .ok (.iconst 1, 1) := by decide +kernel
theorem dX12_kinGone_28 : decode cX12_kinGone 28 = .ok (.iadd, 1) := by decide +kernel
theorem dX12_kinGone_29 : decode cX12_kinGone 29 = .ok (.iaload, 1) := by decide +kernel
theorem dX12_kinGone_30 : decode cX12_kinGone 30 = .ok (.iload_n 1, 1) := by decide +kernel
theorem dX12_kinGone_31 : decode cX12_kinGone 31 = .ok (.if_icmp .ne 24, 3) := by decide +kernel
theorem dX12_kinGone_34 : decode cX12_kinGone 34 = .ok (.aload_n 0, 1) := by decide +kernel
theorem dX12_kinGone_35 : decode cX12_kinGone 35 = .ok (.getfield 7, 3) := by decide +kernel
theorem dX12_kinGone_38 : decode cX12_kinGone 38 = .ok (.sipush 1200, 3) := by decide +kernel
theorem dX12_kinGone_41 : decode cX12_kinGone 41 = .ok (.iconst 5, 1) := by decide +kernel
theorem dX12_kinGone_42 : decode cX12_kinGone 42 = .ok (.iload_n 3, 1) := by decide +kernel
theorem dX12_kinGone_43 : decode cX12_kinGone 43 = .ok (.imul, 1) := by decide +kernel
theorem dX12_kinGone_44 : decode cX12_kinGone 44 = .ok (.iadd, 1) := by decide +kernel
theorem dX12_kinGone_45 : decode cX12_kinGone 45 = .ok (.iconst 4, 1) := by decide +kernel
theorem dX12_kinGone_46 : decode cX12_kinGone 46 = .ok (.iadd, 1) := by decide +kernel
theorem dX12_kinGone_47 : decode cX12_kinGone 47 = .ok (.iaload, 1) := by decide +kernel
theorem dX12_kinGone_48 : decode cX12_kinGone 48 = .ok (.ifCond .lt 7, 3) := by decide +kernel
theorem dX12_kinGone_51 : decode cX12_kinGone 51 = .ok (.iconst 1, 1) := by decide +kernel
theorem dX12_kinGone_52 : decode cX12_kinGone 52 = .ok (.goto 4, 3) := by decide +kernel
theorem dX12_kinGone_55 : decode cX12_kinGone 55 = .ok (.iconst 0, 1) := by decide +kernel
theorem dX12_kinGone_56 : decode cX12_kinGone 56 = .ok (.iadd, 1) := by decide +kernel
theorem dX12_kinGone_57 : decode cX12_kinGone 57 = .ok (.istore_n 2, 1) := by decide +kernel
theorem dX12_kinGone_58 : decode cX12_kinGone 58 = .ok (.iinc 3 1, 3) := by decide +kernel
theorem dX12_kinGone_61 : decode cX12_kinGone 61 = .ok (.goto (-57), 3) := by decide +kernel
theorem dX12_kinGone_64 : decode cX12_kinGone 64 = .ok (.iload_n 2, 1) := by decide +kernel
theorem dX12_kinGone_65 : decode cX12_kinGone 65 = .ok (.ireturn, 1) := by decide +kernel
theorem dX12_leave_0 : decode cX12_leave 0 = .ok (.iconst 1, 1) := by decide +kernel
theorem dX12_leave_1 : decode cX12_leave 1 = .ok (.istore_n 1, 1) := by decide +kernel
theorem dX12_leave_2 : decode cX12_leave 2 = .ok (.iload_n 1, 1) := by decide +kernel
theorem dX12_leave_3 : decode cX12_leave 3 = .ok (.ifCond .eq 164, 3) := by decide +kernel
theorem dX12_leave_6 : decode cX12_leave 6 = .ok (.iconst 0, 1) := by decide +kernel
theorem dX12_leave_7 : decode cX12_leave 7 = .ok (.istore_n 1, 1) := by decide +kernel
theorem dX12_leave_8 : decode cX12_leave 8 = .ok (.iconst 0, 1) := by decide +kernel
theorem dX12_leave_9 : decode cX12_leave 9 = .ok (.istore_n 2, 1) := by decide +kernel
theorem dX12_leave_10 : decode cX12_leave 10 = .ok (.iload_n 2, 1) := by decide +kernel
theorem dX12_leave_11 : decode cX12_leave 11 = .ok (.aload_n 0, 1) := by decide +kernel
theorem dX12_leave_12 : decode cX12_leave 12 = .ok (.getfield 7, 3) := by decide +kernel
theorem dX12_leave_15 : decode cX12_leave 15 = .ok (.bipush 6, 2) := by decide +kernel
theorem dX12_leave_17 : decode cX12_leave 17 = .ok (.iaload, 1) := by decide +kernel
theorem dX12_leave_18 : decode cX12_leave 18 = .ok (.if_icmp .ge 146, 3) := by decide +kernel
theorem dX12_leave_21 : decode cX12_leave 21 = .ok (.sipush 1200, 3) := by decide +kernel
theorem dX12_leave_24 : decode cX12_leave 24 = .ok (.iconst 5, 1) := by decide +kernel
theorem dX12_leave_25 : decode cX12_leave 25 = .ok (.iload_n 2, 1) := by decide +kernel
theorem dX12_leave_26 : decode cX12_leave 26 = .ok (.imul, 1) := by decide +kernel
theorem dX12_leave_27 : decode cX12_leave 27 = .ok (.iadd, 1) := by decide +kernel
theorem dX12_leave_28 : decode cX12_leave 28 = .ok (.istore_n 3, 1) := by decide +kernel
theorem dX12_leave_29 : decode cX12_leave 29 = .ok (.sipush 1080, 3) := by decide +kernel
theorem dX12_leave_32 : decode cX12_leave 32 = .ok (.iconst 5, 1) := by decide +kernel
theorem dX12_leave_33 : decode cX12_leave 33 = .ok (.aload_n 0, 1) := by decide +kernel
theorem dX12_leave_34 : decode cX12_leave 34 = .ok (.getfield 7, 3) := by decide +kernel
theorem dX12_leave_37 : decode cX12_leave 37 = .ok (.iload_n 3, 1) := by decide +kernel
theorem dX12_leave_38 : decode cX12_leave 38 = .ok (.iaload, 1) := by decide +kernel
theorem dX12_leave_39 : decode cX12_leave 39 = .ok (.imul, 1) := by decide +kernel
theorem dX12_leave_40 : decode cX12_leave 40 = .ok (.iadd, 1) := by decide +kernel
theorem dX12_leave_41 : decode cX12_leave 41 = .ok (.istore 4, 2) := by decide +kernel
theorem dX12_leave_43 : decode cX12_leave 43 = .ok (.aload_n 0, 1) := by decide +kernel
theorem dX12_leave_44 : decode cX12_leave 44 = .ok (.getfield 7, 3) := by decide +kernel
theorem dX12_leave_47 : decode cX12_leave 47 = .ok (.iload_n 3, 1) := by decide +kernel
theorem dX12_leave_48 : decode cX12_leave 48 = .ok (.iconst 4, 1) := by decide +kernel
theorem dX12_leave_49 : decode cX12_leave 49 = .ok (.iadd, 1) := by decide +kernel
theorem dX12_leave_50 : decode cX12_leave 50 = .ok (.iaload, 1) := by decide +kernel
theorem dX12_leave_51 : decode cX12_leave 51 = .ok (.ifCond .ge 107, 3) := by decide +kernel
theorem dX12_leave_54 : decode cX12_leave 54 = .ok (.aload_n 0, 1) := by decide +kernel
theorem dX12_leave_55 : decode cX12_leave 55 = .ok (.getfield 7, 3) := by decide +kernel
theorem dX12_leave_58 : decode cX12_leave 58 = .ok (.iload 4, 2) := by decide +kernel
theorem dX12_leave_60 : decode cX12_leave 60 = .ok (.iconst 4, 1) := by decide +kernel
theorem dX12_leave_61 : decode cX12_leave 61 = .ok (.iadd, 1) := by decide +kernel
theorem dX12_leave_62 : decode cX12_leave 62 = .ok (.iaload, 1) := by decide +kernel
theorem dX12_leave_63 : decode cX12_leave 63 = .ok (.aload_n 0, 1) := by decide +kernel
theorem dX12_leave_64 : decode cX12_leave 64 = .ok (.getfield 7, 3) := by decide +kernel
theorem dX12_leave_67 : decode cX12_leave 67 = .ok (.iconst 0, 1) := by decide +kernel
theorem dX12_leave_68 : decode cX12_leave 68 = .ok (.iaload, 1) := by decide +kernel
theorem dX12_leave_69 : decode cX12_leave 69 = .ok (.if_icmp .ge 6, 3) := by decide +kernel
theorem dX12_leave_72 : decode cX12_leave 72 = .ok (.goto 86, 3) := by decide +kernel
theorem dX12_leave_75 : decode cX12_leave 75 = .ok (.aload_n 0, 1) := by decide +kernel
theorem dX12_leave_76 : decode cX12_leave 76 = .ok (.getfield 7, 3) := by decide +kernel
theorem dX12_leave_79 : decode cX12_leave 79 = .ok (.iload 4, 2) := by decide +kernel
theorem dX12_leave_81 : decode cX12_leave 81 = .ok (.iconst 3, 1) := by decide +kernel
theorem dX12_leave_82 : decode cX12_leave 82 = .ok (.iadd, 1) := by decide +kernel
theorem dX12_leave_83 : decode cX12_leave 83 = .ok (.iaload, 1) := by decide +kernel
theorem dX12_leave_84 : decode cX12_leave 84 = .ok (.bipush 100, 2) := by decide +kernel
theorem dX12_leave_86 : decode cX12_leave 86 = .ok (.aload_n 0, 1) := by decide +kernel
theorem dX12_leave_87 : decode cX12_leave 87 = .ok (.getfield 7, 3) := by decide +kernel
theorem dX12_leave_90 : decode cX12_leave 90 = .ok (.iload_n 3, 1) := by decide +kernel
theorem dX12_leave_91 : decode cX12_leave 91 = .ok (.iconst 3, 1) := by decide +kernel
theorem dX12_leave_92 : decode cX12_leave 92 = .ok (.iadd, 1) := by decide +kernel
theorem dX12_leave_93 : decode cX12_leave 93 = .ok (.iaload, 1) := by decide +kernel
theorem dX12_leave_94 : decode cX12_leave 94 = .ok (.imul, 1) := by decide +kernel
theorem dX12_leave_95 : decode cX12_leave 95 = .ok (.iadd, 1) := by decide +kernel
theorem dX12_leave_96 : decode cX12_leave 96 = .ok (.aload_n 0, 1) := by decide +kernel
theorem dX12_leave_97 : decode cX12_leave 97 = .ok (.getfield 7, 3) := by decide +kernel
theorem dX12_leave_100 : decode cX12_leave 100 = .ok (.bipush 14, 2) := by decide +kernel
theorem dX12_leave_102 : decode cX12_leave 102 = .ok (.iaload, 1) := by decide +kernel
theorem dX12_leave_103 : decode cX12_leave 103 = .ok (.aload_n 0, 1) := by decide +kernel
theorem dX12_leave_104 : decode cX12_leave 104 = .ok (.aload_n 0, 1) := by decide +kernel
theorem dX12_leave_105 : decode cX12_leave 105 = .ok (.getfield 7, 3) := by decide +kernel
theorem dX12_leave_108 : decode cX12_leave 108 = .ok (.iload_n 3, 1) := by decide +kernel
theorem dX12_leave_109 : decode cX12_leave 109 = .ok (.iconst 1, 1) := by decide +kernel
theorem dX12_leave_110 : decode cX12_leave 110 = .ok (.iadd, 1) := by decide +kernel
theorem dX12_leave_111 : decode cX12_leave 111 = .ok (.iaload, 1) := by decide +kernel
theorem dX12_leave_112 : decode cX12_leave 112 = .ok (.invokevirtual 172, 3) := by decide +kernel
theorem dX12_leave_115 : decode cX12_leave 115 = .ok (.imul, 1) := by decide +kernel
theorem dX12_leave_116 : decode cX12_leave 116 = .ok (.iadd, 1) := by decide +kernel
theorem dX12_leave_117 : decode cX12_leave 117 = .ok (.aload_n 0, 1) := by decide +kernel
theorem dX12_leave_118 : decode cX12_leave 118 = .ok (.getfield 7, 3) := by decide +kernel
theorem dX12_leave_121 : decode cX12_leave 121 = .ok (.iload_n 3, 1) := by decide +kernel
theorem dX12_leave_122 : decode cX12_leave 122 = .ok (.iconst 2, 1) := by decide +kernel
theorem dX12_leave_123 : decode cX12_leave 123 = .ok (.iadd, 1) := by decide +kernel
theorem dX12_leave_124 : decode cX12_leave 124 = .ok (.iaload, 1) := by decide +kernel
theorem dX12_leave_125 : decode cX12_leave 125 = .ok (.if_icmp .ge 6, 3) := by decide +kernel
theorem dX12_leave_128 : decode cX12_leave 128 = .ok (.goto 30, 3) := by decide +kernel
theorem dX12_leave_131 : decode cX12_leave 131 = .ok (.aload_n 0, 1) := by decide +kernel
theorem dX12_leave_132 : decode cX12_leave 132 = .ok (.getfield 7, 3) := by decide +kernel
theorem dX12_leave_135 : decode cX12_leave 135 = .ok (.iload_n 3, 1) := by decide +kernel
theorem dX12_leave_136 : decode cX12_leave 136 = .ok (.iconst 4, 1) := by decide +kernel
theorem dX12_leave_137 : decode cX12_leave 137 = .ok (.iadd, 1) := by decide +kernel
theorem dX12_leave_138 : decode cX12_leave 138 = .ok (.aload_n 0, 1) := by decide +kernel
theorem dX12_leave_139 : decode cX12_leave 139 = .ok (.getfield 7, 3) := by decide +kernel
theorem dX12_leave_142 : decode cX12_leave 142 = .ok (.iconst 0, 1) := by decide +kernel
theorem dX12_leave_143 : decode cX12_leave 143 = .ok (.iaload, 1) := by decide +kernel
theorem dX12_leave_144 : decode cX12_leave 144 = .ok (.iastore, 1) := by decide +kernel
theorem dX12_leave_145 : decode cX12_leave 145 = .ok (.aload_n 0, 1) := by decide +kernel
theorem dX12_leave_146 : decode cX12_leave 146 = .ok (.getfield 7, 3) := by decide +kernel
theorem dX12_leave_149 : decode cX12_leave 149 = .ok (.bipush 7, 2) := by decide +kernel
theorem dX12_leave_151 : decode cX12_leave 151 = .ok (.dup2, 1) := by decide +kernel
theorem dX12_leave_152 : decode cX12_leave 152 = .ok (.iaload, 1) := by decide +kernel
theorem dX12_leave_153 : decode cX12_leave 153 = .ok (.iconst 1, 1) := by decide +kernel
theorem dX12_leave_154 : decode cX12_leave 154 = .ok (.iadd, 1) := by decide +kernel
theorem dX12_leave_155 : decode cX12_leave 155 = .ok (.iastore, 1) := by decide +kernel
theorem dX12_leave_156 : decode cX12_leave 156 = .ok (.iconst 1, 1) := by decide +kernel
theorem dX12_leave_157 : decode cX12_leave 157 = .ok (.istore_n 1, 1) := by decide +kernel
theorem dX12_leave_158 : decode cX12_leave 158 = .ok (.iinc 2 1, 3) := by decide +kernel
theorem dX12_leave_161 : decode cX12_leave 161 = .ok (.goto (-151), 3) := by decide +kernel
theorem dX12_leave_164 : decode cX12_leave 164 = .ok (.goto (-162), 3) := by decide +kernel
theorem dX12_leave_167 : decode cX12_leave 167 = .ok (.return_, 1) := by decide +kernel
theorem dX12_weeks_0 : decode cX12_weeks 0 = .ok (.iload_n 1, 1) := by decide +kernel
theorem dX12_weeks_1 : decode cX12_weeks 1 = .ok (.iconst 1, 1) := by decide +kernel
theorem dX12_weeks_2 : decode cX12_weeks 2 = .ok (.bipush 20, 2) := by decide +kernel
theorem dX12_weeks_4 : decode cX12_weeks 4 = .ok (.invokestatic 96, 3) := by decide +kernel
theorem dX12_weeks_7 : decode cX12_weeks 7 = .ok (.ifCond .eq 16, 3) := by decide +kernel
theorem dX12_weeks_10 : decode cX12_weeks 10 = .ok (.aload_n 0, 1) := by decide +kernel
theorem dX12_weeks_11 : decode cX12_weeks 11 = .ok (.getfield 7, 3) := by decide +kernel
theorem dX12_weeks_14 : decode cX12_weeks 14 = .ok (.iconst 0, 1) := by decide +kernel
theorem dX12_weeks_15 : decode cX12_weeks 15 = .ok (.iaload, 1) := by decide +kernel
theorem dX12_weeks_16 : decode cX12_weeks 16 = .ok (.iload_n 1, 1) := by decide +kernel
theorem dX12_weeks_17 : decode cX12_weeks 17 = .ok (.iadd, 1) := by decide +kernel
theorem dX12_weeks_18 : decode cX12_weeks 18 = .ok (.bipush 100, 2) := by decide +kernel
theorem dX12_weeks_20 : decode cX12_weeks 20 = .ok (.if_icmp .le 5, 3) := by decide +kernel
theorem dX12_weeks_23 : decode cX12_weeks 23 = .ok (.iconst (-1), 1) := by decide +kernel
theorem dX12_weeks_24 : decode cX12_weeks 24 = .ok (.ireturn, 1) := by decide +kernel
theorem dX12_weeks_25 : decode cX12_weeks 25 = .ok (.iconst 0, 1) := by decide +kernel
theorem dX12_weeks_26 : decode cX12_weeks 26 = .ok (.istore_n 2, 1) := by decide +kernel
theorem dX12_weeks_27 : decode cX12_weeks 27 = .ok (.iload_n 2, 1) := by decide +kernel
theorem dX12_weeks_28 : decode cX12_weeks 28 = .ok (.iload_n 1, 1) := by decide +kernel
theorem dX12_weeks_29 : decode cX12_weeks 29 = .ok (.if_icmp .ge 23, 3) := by decide +kernel
theorem dX12_weeks_32 : decode cX12_weeks 32 = .ok (.aload_n 0, 1) := by decide +kernel
theorem dX12_weeks_33 : decode cX12_weeks 33 = .ok (.invokevirtual 175, 3) := by decide +kernel
theorem dX12_weeks_36 : decode cX12_weeks 36 = .ok (.aload_n 0, 1) := by decide +kernel
theorem dX12_weeks_37 : decode cX12_weeks 37 = .ok (.getfield 7, 3) := by decide +kernel
theorem dX12_weeks_40 : decode cX12_weeks 40 = .ok (.iconst 0, 1) := by decide +kernel
theorem dX12_weeks_41 : decode cX12_weeks 41 = .ok (.dup2, 1) := by decide +kernel
theorem dX12_weeks_42 : decode cX12_weeks 42 = .ok (.iaload, 1) := by decide +kernel
theorem dX12_weeks_43 : decode cX12_weeks 43 = .ok (.iconst 1, 1) := by decide +kernel
theorem dX12_weeks_44 : decode cX12_weeks 44 = .ok (.iadd, 1) := by decide +kernel
theorem dX12_weeks_45 : decode cX12_weeks 45 = .ok (.iastore, 1) := by decide +kernel
theorem dX12_weeks_46 : decode cX12_weeks 46 = .ok (.iinc 2 1, 3) := by decide +kernel
theorem dX12_weeks_49 : decode cX12_weeks 49 = .ok (.goto (-22), 3) := by decide +kernel
theorem dX12_weeks_52 : decode cX12_weeks 52 = .ok (.aload_n 0, 1) := by decide +kernel
theorem dX12_weeks_53 : decode cX12_weeks 53 = .ok (.getfield 7, 3) := by decide +kernel
theorem dX12_weeks_56 : decode cX12_weeks 56 = .ok (.iconst 0, 1) := by decide +kernel
theorem dX12_weeks_57 : decode cX12_weeks 57 = .ok (.iaload, 1) := by decide +kernel
theorem dX12_weeks_58 : decode cX12_weeks 58 = .ok (.ireturn, 1) := by decide +kernel
theorem dX12_four_0 : decode cX12_four 0 = .ok (.bipush 24, 2) := by decide +kernel
theorem dX12_four_2 : decode cX12_four 2 = .ok (.istore_n 2, 1) := by decide +kernel
theorem dX12_four_3 : decode cX12_four 3 = .ok (.iload_n 2, 1) := by decide +kernel
theorem dX12_four_4 : decode cX12_four 4 = .ok (.ifCond .lt 35, 3) := by decide +kernel
theorem dX12_four_7 : decode cX12_four 7 = .ok (.aload_n 0, 1) := by decide +kernel
theorem dX12_four_8 : decode cX12_four 8 = .ok (.getfield 54, 3) := by decide +kernel
theorem dX12_four_11 : decode cX12_four 11 = .ok (.aload_n 0, 1) := by decide +kernel
theorem dX12_four_12 : decode cX12_four 12 = .ok (.getfield 178, 3) := by decide +kernel
theorem dX12_four_15 : decode cX12_four 15 = .ok (.iload_n 1, 1) := by decide +kernel
theorem dX12_four_16 : decode cX12_four 16 = .ok (.iload_n 2, 1) := by decide +kernel
theorem dX12_four_17 : decode cX12_four 17 = .ok (.ishr, 1) := by decide +kernel
theorem dX12_four_18 : decode cX12_four 18 = .ok (.sipush 255, 3) := by decide +kernel
theorem dX12_four_21 : decode cX12_four 21 = .ok (.iand, 1) := by decide +kernel
theorem dX12_four_22 : decode cX12_four 22 = .ok (.iastore, 1) := by decide +kernel
theorem dX12_four_23 : decode cX12_four 23 = .ok (.aload_n 0, 1) := by decide +kernel
theorem dX12_four_24 : decode cX12_four 24 = .ok (.dup, 1) := by decide +kernel
theorem dX12_four_25 : decode cX12_four 25 = .ok (.getfield 178, 3) := by decide +kernel
theorem dX12_four_28 : decode cX12_four 28 = .ok (.iconst 1, 1) := by decide +kernel
theorem dX12_four_29 : decode cX12_four 29 = .ok (.iadd, 1) := by decide +kernel
theorem dX12_four_30 : decode cX12_four 30 = .ok (.putfield 178, 3) := by decide +kernel
theorem dX12_four_33 : decode cX12_four 33 = .ok (.iinc 2 (-8), 3) := by decide +kernel
theorem dX12_four_36 : decode cX12_four 36 = .ok (.goto (-33), 3) := by decide +kernel
theorem dX12_four_39 : decode cX12_four 39 = .ok (.return_, 1) := by decide +kernel
theorem dX12_feed_0 : decode cX12_feed 0 = .ok (.aload_n 0, 1) := by decide +kernel
theorem dX12_feed_1 : decode cX12_feed 1 = .ok (.getfield 178, 3) := by decide +kernel
theorem dX12_feed_4 : decode cX12_feed 4 = .ok (.bipush 20, 2) := by decide +kernel
theorem dX12_feed_6 : decode cX12_feed 6 = .ok (.iadd, 1) := by decide +kernel
theorem dX12_feed_7 : decode cX12_feed 7 = .ok (.sipush 300, 3) := by decide +kernel
theorem dX12_feed_10 : decode cX12_feed 10 = .ok (.if_icmp .le 5, 3) := by decide +kernel
theorem dX12_feed_13 : decode cX12_feed 13 = .ok (.iconst (-1), 1) := by decide +kernel
theorem dX12_feed_14 : decode cX12_feed 14 = .ok (.ireturn, 1) := by decide +kernel
theorem dX12_feed_15 : decode cX12_feed 15 = .ok (.aload_n 0, 1) := by decide +kernel
theorem dX12_feed_16 : decode cX12_feed 16 = .ok (.iload_n 1, 1) := by decide +kernel
theorem dX12_feed_17 : decode cX12_feed 17 = .ok (.invokevirtual 181, 3) := by decide +kernel
theorem dX12_feed_20 : decode cX12_feed 20 = .ok (.aload_n 0, 1) := by decide +kernel
theorem dX12_feed_21 : decode cX12_feed 21 = .ok (.iload_n 2, 1) := by decide +kernel
theorem dX12_feed_22 : decode cX12_feed 22 = .ok (.invokevirtual 181, 3) := by decide +kernel
theorem dX12_feed_25 : decode cX12_feed 25 = .ok (.aload_n 0, 1) := by decide +kernel
theorem dX12_feed_26 : decode cX12_feed 26 = .ok (.iload_n 3, 1) := by decide +kernel
theorem dX12_feed_27 : decode cX12_feed 27 = .ok (.invokevirtual 181, 3) := by decide +kernel
theorem dX12_feed_30 : decode cX12_feed 30 = .ok (.aload_n 0, 1) := by decide +kernel
theorem dX12_feed_31 : decode cX12_feed 31 = .ok (.iload 4, 2) := by decide +kernel
theorem dX12_feed_33 : decode cX12_feed 33 = .ok (.invokevirtual 181, 3) := by decide +kernel
theorem dX12_feed_36 : decode cX12_feed 36 = .ok (.aload_n 0, 1) := by decide +kernel
theorem dX12_feed_37 : decode cX12_feed 37 = .ok (.iload 5, 2) := by decide +kernel
theorem dX12_feed_39 : decode cX12_feed 39 = .ok (.invokevirtual 181, 3) := by decide +kernel
theorem dX12_feed_42 : decode cX12_feed 42 = .ok (.aload_n 0, 1) := by decide +kernel
theorem dX12_feed_43 : decode cX12_feed 43 = .ok (.getfield 178, 3) := by decide +kernel
theorem dX12_feed_46 : decode cX12_feed 46 = .ok (.ireturn, 1) := by decide +kernel
theorem dX12_end_0 : decode cX12_end 0 = .ok (.iload_n 1, 1) := by decide +kernel
theorem dX12_end_1 : decode cX12_end 1 = .ok (.iconst 0, 1) := by decide +kernel
theorem dX12_end_2 : decode cX12_end 2 = .ok (.aload_n 0, 1) := by decide +kernel
theorem dX12_end_3 : decode cX12_end 3 = .ok (.getfield 178, 3) := by decide +kernel
theorem dX12_end_6 : decode cX12_end 6 = .ok (.invokestatic 96, 3) := by decide +kernel
theorem dX12_end_9 : decode cX12_end 9 = .ok (.ifCond .ne 5, 3) := by decide +kernel
theorem dX12_end_12 : decode cX12_end 12 = .ok (.iconst (-1), 1) := by decide +kernel
theorem dX12_end_13 : decode cX12_end 13 = .ok (.ireturn, 1) := by decide +kernel
theorem dX12_end_14 : decode cX12_end 14 = .ok (.aload_n 0, 1) := by decide +kernel
theorem dX12_end_15 : decode cX12_end 15 = .ok (.iload_n 1, 1) := by decide +kernel
theorem dX12_end_16 : decode cX12_end 16 = .ok (.putfield 178, 3) := by decide +kernel
theorem dX12_end_19 : decode cX12_end 19 = .ok (.iload_n 1, 1) := by decide +kernel
theorem dX12_end_20 : decode cX12_end 20 = .ok (.ireturn, 1) := by decide +kernel
theorem dX12_see_0 : decode cX12_see 0 = .ok (.iload_n 1, 1) := by decide +kernel
theorem dX12_see_1 : decode cX12_see 1 = .ok (.aload_n 0, 1) := by decide +kernel
theorem dX12_see_2 : decode cX12_see 2 = .ok (.getfield 178, 3) := by decide +kernel
theorem dX12_see_5 : decode cX12_see 5 = .ok (.if_icmp .ge 12, 3) := by decide +kernel
theorem dX12_see_8 : decode cX12_see 8 = .ok (.aload_n 0, 1) := by decide +kernel
theorem dX12_see_9 : decode cX12_see 9 = .ok (.getfield 54, 3) := by decide +kernel
theorem dX12_see_12 : decode cX12_see 12 = .ok (.iload_n 1, 1) := by decide +kernel
theorem dX12_see_13 : decode cX12_see 13 = .ok (.iaload, 1) := by decide +kernel
theorem dX12_see_14 : decode cX12_see 14 = .ok (.goto 4, 3) := by decide +kernel
theorem dX12_see_17 : decode cX12_see 17 = .ok (.iconst (-1), 1) := by decide +kernel
theorem dX12_see_18 : decode cX12_see 18 = .ok (.ireturn, 1) := by decide +kernel
theorem dX12_isLetter_0 : decode cX12_isLetter 0 = .ok (.iload_n 0, 1) := by decide +kernel
theorem dX12_isLetter_1 : decode cX12_isLetter 1 = .ok (.bipush 97, 2) := by decide +kernel
theorem dX12_isLetter_3 : decode cX12_isLetter 3 = .ok (.bipush 122, 2) := by decide +kernel
theorem dX12_isLetter_5 : decode cX12_isLetter 5 = .ok (.invokestatic 96, 3) := by decide +kernel
theorem dX12_isLetter_8 : decode cX12_isLetter 8 = .ok (.ifCond .ne 14, 3) := by decide +kernel
theorem dX12_isLetter_11 : decode cX12_isLetter 11 = .ok (.iload_n 0, 1) := by decide +kernel
theorem dX12_isLetter_12 : decode cX12_isLetter 12 = .ok (.bipush 65, 2) := by decide +kernel
theorem dX12_isLetter_14 : decode cX12_isLetter 14 = .ok (.bipush 90, 2) := by decide +kernel
theorem dX12_isLetter_16 : decode cX12_isLetter 16 = .ok (.invokestatic 96, 3) := by decide +kernel
theorem dX12_isLetter_19 : decode cX12_isLetter 19 = .ok (.ifCond .eq 7, 3) := by decide +kernel
theorem dX12_isLetter_22 : decode cX12_isLetter 22 = .ok (.iconst 1, 1) := by decide +kernel
theorem dX12_isLetter_23 : decode cX12_isLetter 23 = .ok (.goto 4, 3) := by decide +kernel
theorem dX12_isLetter_26 : decode cX12_isLetter 26 = .ok (.iconst 0, 1) := by decide +kernel
theorem dX12_isLetter_27 : decode cX12_isLetter 27 = .ok (.ireturn, 1) := by decide +kernel
theorem dX12_isDigit_0 : decode cX12_isDigit 0 = .ok (.iload_n 0, 1) := by decide +kernel
theorem dX12_isDigit_1 : decode cX12_isDigit 1 = .ok (.bipush 48, 2) := by decide +kernel
theorem dX12_isDigit_3 : decode cX12_isDigit 3 = .ok (.bipush 57, 2) := by decide +kernel
theorem dX12_isDigit_5 : decode cX12_isDigit 5 = .ok (.invokestatic 96, 3) := by decide +kernel
theorem dX12_isDigit_8 : decode cX12_isDigit 8 = .ok (.ireturn, 1) := by decide +kernel
theorem dX12_nextToken_0 : decode cX12_nextToken 0 = .ok (.aload_n 0, 1) := by decide +kernel
theorem dX12_nextToken_1 : decode cX12_nextToken 1 = .ok (.aload_n 0, 1) := by decide +kernel
theorem dX12_nextToken_2 : decode cX12_nextToken 2 = .ok (.getfield 185, 3) := by decide +kernel
theorem dX12_nextToken_5 : decode cX12_nextToken 5 = .ok (.invokevirtual 188, 3) := by decide +kernel
theorem dX12_nextToken_8 : decode cX12_nextToken 8 = .ok (.bipush 32, 2) := by decide +kernel
theorem dX12_nextToken_10 : decode cX12_nextToken 10 = .ok (.if_icmp .eq 16, 3) := by decide +kernel
theorem dX12_nextToken_13 : decode cX12_nextToken 13 = .ok (.aload_n 0, 1) := by decide +kernel
theorem dX12_nextToken_14 : decode cX12_nextToken 14 = .ok (.aload_n 0, 1) := by decide +kernel
theorem dX12_nextToken_15 : decode cX12_nextToken 15 = .ok (.getfield 185, 3) := by decide +kernel
theorem dX12_nextToken_18 : decode cX12_nextToken 18 = .ok (.invokevirtual 188, 3) := by decide +kernel
theorem dX12_nextToken_21 : decode cX12_nextToken 21 = .ok (.bipush 10, 2) := by decide +kernel
theorem dX12_nextToken_23 : decode cX12_nextToken 23 = .ok (.if_icmp .ne 16, 3) := by decide +kernel
theorem dX12_nextToken_26 : decode cX12_nextToken 26 = .ok (.aload_n 0, 1) := by decide +kernel
theorem dX12_nextToken_27 : decode cX12_nextToken 27 = .ok (.dup, 1) := by decide +kernel
theorem dX12_nextToken_28 : decode cX12_nextToken 28 = .ok (.getfield 185, 3) := by decide +kernel
theorem dX12_nextToken_31 : decode cX12_nextToken 31 = .ok (.iconst 1, 1) := by decide +kernel
theorem dX12_nextToken_32 : decode cX12_nextToken 32 = .ok (.iadd, 1) := by decide +kernel
theorem dX12_nextToken_33 : decode cX12_nextToken 33 = .ok (.putfield 185, 3) := by decide +kernel
theorem dX12_nextToken_36 : decode cX12_nextToken 36 = .ok (.goto (-36), 3) := by decide +kernel
theorem dX12_nextToken_39 : decode cX12_nextToken 39 = .ok (.aload_n 0, 1) := by decide +kernel
theorem dX12_nextToken_40 : decode cX12_nextToken 40 = .ok (.aload_n 0, 1) := by decide +kernel
theorem dX12_nextToken_41 : decode cX12_nextToken 41 = .ok (.getfield 185, 3) := by decide +kernel
theorem dX12_nextToken_44 : decode cX12_nextToken 44 = .ok (.putfield 191, 3) := by decide +kernel
theorem dX12_nextToken_47 : decode cX12_nextToken 47 = .ok (.aload_n 0, 1) := by decide +kernel
theorem dX12_nextToken_48 : decode cX12_nextToken 48 = .ok (.aload_n 0, 1) := by decide +kernel
theorem dX12_nextToken_49 : decode cX12_nextToken 49 = .ok (.getfield 185, 3) := by decide +kernel
theorem dX12_nextToken_52 : decode cX12_nextToken 52 = .ok (.invokevirtual 188, 3) := by decide +kernel
theorem dX12_nextToken_55 : decode cX12_nextToken 55 = .ok (.istore_n 1, 1) := by decide +kernel
theorem dX12_nextToken_56 : decode cX12_nextToken 56 = .ok (.iload_n 1, 1) := by decide +kernel
theorem dX12_nextToken_57 : decode cX12_nextToken 57 = .ok (.ifCond .ge 11, 3) := by decide +kernel
theorem dX12_nextToken_60 : decode cX12_nextToken 60 = .ok (.aload_n 0, 1) := by decide +kernel
theorem dX12_nextToken_61 : decode cX12_nextToken 61 = .ok (.iconst 0, 1) := by decide +kernel
theorem dX12_nextToken_62 : decode cX12_nextToken 62 = .ok (.putfield 194, 3) := by decide +kernel
theorem dX12_nextToken_65 : decode cX12_nextToken 65 = .ok (.goto 325, 3) := by decide +kernel
theorem dX12_nextToken_68 : decode cX12_nextToken 68 = .ok (.iload_n 1, 1) := by decide +kernel
theorem dX12_nextToken_69 : decode cX12_nextToken 69 = .ok (.invokestatic 197, 3) := by decide +kernel
theorem dX12_nextToken_72 : decode cX12_nextToken 72 = .ok (.ifCond .eq 72, 3) := by decide +kernel
theorem dX12_nextToken_75 : decode cX12_nextToken 75 = .ok (.aload_n 0, 1) := by decide +kernel
theorem dX12_nextToken_76 : decode cX12_nextToken 76 = .ok (.iconst 1, 1) := by decide +kernel
theorem dX12_nextToken_77 : decode cX12_nextToken 77 = .ok (.putfield 194, 3) := by decide +kernel
theorem dX12_nextToken_80 : decode cX12_nextToken 80 = .ok (.aload_n 0, 1) := by decide +kernel
theorem dX12_nextToken_81 : decode cX12_nextToken 81 = .ok (.iconst 0, 1) := by decide +kernel
theorem dX12_nextToken_82 : decode cX12_nextToken 82 = .ok (.putfield 200, 3) := by decide +kernel
theorem dX12_nextToken_85 : decode cX12_nextToken 85 = .ok (.aload_n 0, 1) := by decide +kernel
theorem dX12_nextToken_86 : decode cX12_nextToken 86 = .ok (.aload_n 0, 1) := by decide +kernel
theorem dX12_nextToken_87 : decode cX12_nextToken 87 = .ok (.getfield 185, 3) := by decide +kernel
theorem dX12_nextToken_90 : decode cX12_nextToken 90 = .ok (.invokevirtual 188, 3) := by decide +kernel
theorem dX12_nextToken_93 : decode cX12_nextToken 93 = .ok (.invokestatic 197, 3) := by decide +kernel
theorem dX12_nextToken_96 : decode cX12_nextToken 96 = .ok (.ifCond .eq 294, 3) := by decide +kernel
theorem dX12_nextToken_99 : decode cX12_nextToken 99 = .ok (.aload_n 0, 1) := by decide +kernel
theorem dX12_nextToken_100 : decode cX12_nextToken 100 = .ok (.getfield 200, 3) := by decide +kernel
theorem dX12_nextToken_103 : decode cX12_nextToken 103 = .ok (.ldc 203, 2) := by decide +kernel
theorem dX12_nextToken_105 : decode cX12_nextToken 105 = .ok (.if_icmp .ge 26, 3) := by decide +kernel
theorem dX12_nextToken_108 : decode cX12_nextToken 108 = .ok (.aload_n 0, 1) := by decide +kernel
theorem dX12_nextToken_109 : decode cX12_nextToken 109 = .ok (.bipush 10, 2) := by decide +kernel
theorem dX12_nextToken_111 : decode cX12_nextToken 111 = .ok (.aload_n 0, 1) := by decide +kernel
theorem dX12_nextToken_112 : decode cX12_nextToken 112 = .ok (.getfield 200, 3) := by decide +kernel
theorem dX12_nextToken_115 : decode cX12_nextToken 115 = .ok (.imul, 1) := by decide +kernel
theorem dX12_nextToken_116 : decode cX12_nextToken 116 = .ok (.aload_n 0, 1) := by decide +kernel
theorem dX12_nextToken_117 : decode cX12_nextToken 117 = .ok (.aload_n 0, 1) := by decide +kernel
theorem dX12_nextToken_118 : decode cX12_nextToken 118 = .ok (.getfield 185, 3) := by decide +kernel
theorem dX12_nextToken_121 : decode cX12_nextToken 121 = .ok (.invokevirtual 188, 3) := by decide +kernel
theorem dX12_nextToken_124 : decode cX12_nextToken 124 = .ok (.iadd, 1) := by decide +kernel
theorem dX12_nextToken_125 : decode cX12_nextToken 125 = .ok (.bipush 48, 2) := by decide +kernel
theorem dX12_nextToken_127 : decode cX12_nextToken 127 = .ok (.isub, 1) := by decide +kernel
theorem dX12_nextToken_128 : decode cX12_nextToken 128 = .ok (.putfield 200, 3) := by decide +kernel
theorem dX12_nextToken_131 : decode cX12_nextToken 131 = .ok (.aload_n 0, 1) := by decide +kernel
theorem dX12_nextToken_132 : decode cX12_nextToken 132 = .ok (.dup, 1) := by decide +kernel
theorem dX12_nextToken_133 : decode cX12_nextToken 133 = .ok (.getfield 185, 3) := by decide +kernel
theorem dX12_nextToken_136 : decode cX12_nextToken 136 = .ok (.iconst 1, 1) := by decide +kernel
theorem dX12_nextToken_137 : decode cX12_nextToken 137 = .ok (.iadd, 1) := by decide +kernel
theorem dX12_nextToken_138 : decode cX12_nextToken 138 = .ok (.putfield 185, 3) := by decide +kernel
theorem dX12_nextToken_141 : decode cX12_nextToken 141 = .ok (.goto (-56), 3) := by decide +kernel
theorem dX12_nextToken_144 : decode cX12_nextToken 144 = .ok (.iload_n 1, 1) := by decide +kernel
theorem dX12_nextToken_145 : decode cX12_nextToken 145 = .ok (.invokestatic 204, 3) := by decide +kernel
theorem dX12_nextToken_148 : decode cX12_nextToken 148 = .ok (.ifCond .eq 97, 3) := by decide +kernel
theorem dX12_nextToken_151 : decode cX12_nextToken 151 = .ok (.aload_n 0, 1) := by decide +kernel
theorem dX12_nextToken_152 : decode cX12_nextToken 152 = .ok (.iconst 2, 1) := by decide +kernel
theorem dX12_nextToken_153 : decode cX12_nextToken 153 = .ok (.putfield 194, 3) := by decide +kernel
theorem dX12_nextToken_156 : decode cX12_nextToken 156 = .ok (.aload_n 0, 1) := by decide +kernel
theorem dX12_nextToken_157 : decode cX12_nextToken 157 = .ok (.lconst 0, 1) := by decide +kernel
theorem dX12_nextToken_158 : decode cX12_nextToken 158 = .ok (.putfield 207, 3) := by decide +kernel
theorem dX12_nextToken_161 : decode cX12_nextToken 161 = .ok (.aload_n 0, 1) := by decide +kernel
theorem dX12_nextToken_162 : decode cX12_nextToken 162 = .ok (.aload_n 0, 1) := by decide +kernel
theorem dX12_nextToken_163 : decode cX12_nextToken 163 = .ok (.getfield 185, 3) := by decide +kernel
theorem dX12_nextToken_166 : decode cX12_nextToken 166 = .ok (.invokevirtual 188, 3) := by decide +kernel
theorem dX12_nextToken_169 : decode cX12_nextToken 169 = .ok (.invokestatic 204, 3) := by decide +kernel
theorem dX12_nextToken_172 : decode cX12_nextToken 172 = .ok (.ifCond .eq 51, 3) := by decide +kernel
theorem dX12_nextToken_175 : decode cX12_nextToken 175 = .ok (.aload_n 0, 1) := by decide +kernel
theorem dX12_nextToken_176 : decode cX12_nextToken 176 = .ok (.getfield 185, 3) := by decide +kernel
theorem dX12_nextToken_179 : decode cX12_nextToken 179 = .ok (.aload_n 0, 1) := by decide +kernel
theorem dX12_nextToken_180 : decode cX12_nextToken 180 = .ok (.getfield 191, 3) := by decide +kernel
theorem dX12_nextToken_183 : decode cX12_nextToken 183 = .ok (.isub, 1) := by decide +kernel
theorem dX12_nextToken_184 : decode cX12_nextToken 184 = .ok (.bipush 7, 2) := by decide +kernel
theorem dX12_nextToken_186 : decode cX12_nextToken 186 = .ok (.if_icmp .ge 24, 3) := by decide +kernel
theorem dX12_nextToken_189 : decode cX12_nextToken 189 = .ok (.aload_n 0, 1) := by decide +kernel
theorem dX12_nextToken_190 : decode cX12_nextToken 190 = .ok (.aload_n 0, 1) := by decide +kernel
theorem dX12_nextToken_191 : decode cX12_nextToken 191 = .ok (.getfield 207, 3) := by decide +kernel
theorem dX12_nextToken_194 : decode cX12_nextToken 194 = .ok (.bipush 8, 2) := by decide +kernel
theorem dX12_nextToken_196 : decode cX12_nextToken 196 = .ok (.lshl, 1) := by decide +kernel
theorem dX12_nextToken_197 : decode cX12_nextToken 197 = .ok (.aload_n 0, 1) := by decide +kernel
theorem dX12_nextToken_198 : decode cX12_nextToken 198 = .ok (.aload_n 0, 1) := by decide +kernel
theorem dX12_nextToken_199 : decode cX12_nextToken 199 = .ok (.getfield 185, 3) := by decide +kernel
theorem dX12_nextToken_202 : decode cX12_nextToken 202 = .ok (.invokevirtual 188, 3) := by decide +kernel
theorem dX12_nextToken_205 : decode cX12_nextToken 205 = .ok (.i2l, 1) := by decide +kernel
theorem dX12_nextToken_206 : decode cX12_nextToken 206 = .ok (.lor, 1) := by decide +kernel
theorem dX12_nextToken_207 : decode cX12_nextToken 207 = .ok (.putfield 207, 3) := by decide +kernel
theorem dX12_nextToken_210 : decode cX12_nextToken 210 = .ok (.aload_n 0, 1) := by decide +kernel
theorem dX12_nextToken_211 : decode cX12_nextToken 211 = .ok (.dup, 1) := by decide +kernel
theorem dX12_nextToken_212 : decode cX12_nextToken 212 = .ok (.getfield 185, 3) := by decide +kernel
theorem dX12_nextToken_215 : decode cX12_nextToken 215 = .ok (.iconst 1, 1) := by decide +kernel
theorem dX12_nextToken_216 : decode cX12_nextToken 216 = .ok (.iadd, 1) := by decide +kernel
theorem dX12_nextToken_217 : decode cX12_nextToken 217 = .ok (.putfield 185, 3) := by decide +kernel
theorem dX12_nextToken_220 : decode cX12_nextToken 220 = .ok (.goto (-59), 3) := by decide +kernel
theorem dX12_nextToken_223 : decode cX12_nextToken 223 = .ok (.aload_n 0, 1) := by decide +kernel
theorem dX12_nextToken_224 : decode cX12_nextToken 224 = .ok (.getfield 185, 3) := by decide +kernel
theorem dX12_nextToken_227 : decode cX12_nextToken 227 = .ok (.aload_n 0, 1) := by decide +kernel
theorem dX12_nextToken_228 : decode cX12_nextToken 228 = .ok (.getfield 191, 3) := by decide +kernel
theorem dX12_nextToken_231 : decode cX12_nextToken 231 = .ok (.isub, 1) := by decide +kernel
theorem dX12_nextToken_232 : decode cX12_nextToken 232 = .ok (.bipush 7, 2) := by decide +kernel
theorem dX12_nextToken_234 : decode cX12_nextToken 234 = .ok (.if_icmp .le 156, 3) := by decide +kernel
theorem dX12_nextToken_237 : decode cX12_nextToken 237 = .ok (.aload_n 0, 1) := by decide +kernel
theorem dX12_nextToken_238 : decode cX12_nextToken 238 = .ok (.lconst 0, 1) := by decide +kernel
theorem dX12_nextToken_239 : decode cX12_nextToken 239 = .ok (.putfield 207, 3) := by decide +kernel
theorem dX12_nextToken_242 : decode cX12_nextToken 242 = .ok (.goto 148, 3) := by decide +kernel
theorem dX12_nextToken_245 : decode cX12_nextToken 245 = .ok (.aload_n 0, 1) := by decide +kernel
theorem dX12_nextToken_246 : decode cX12_nextToken 246 = .ok (.dup, 1) := by decide +kernel
theorem dX12_nextToken_247 : decode cX12_nextToken 247 = .ok (.getfield 185, 3) := by decide +kernel
theorem dX12_nextToken_250 : decode cX12_nextToken 250 = .ok (.iconst 1, 1) := by decide +kernel
theorem dX12_nextToken_251 : decode cX12_nextToken 251 = .ok (.iadd, 1) := by decide +kernel
theorem dX12_nextToken_252 : decode cX12_nextToken 252 = .ok (.putfield 185, 3) := by decide +kernel
theorem dX12_nextToken_255 : decode cX12_nextToken 255 = .ok (.iload_n 1, 1) := by decide +kernel
theorem dX12_nextToken_256 : decode cX12_nextToken 256 = .ok (.bipush 60, 2) := by decide +kernel
theorem dX12_nextToken_258 : decode cX12_nextToken 258 = .ok (.if_icmp .eq 63, 3) := by decide +kernel
theorem dX12_nextToken_261 : decode cX12_nextToken 261 = .ok (.iload_n 1, 1) := by decide +kernel
theorem dX12_nextToken_262 : decode cX12_nextToken 262 = .ok (.bipush 62, 2) := by decide +kernel
theorem dX12_nextToken_264 : decode cX12_nextToken 264 = .ok (.if_icmp .eq 57, 3) := by decide +kernel
theorem dX12_nextToken_267 : decode cX12_nextToken 267 = .ok (.iload_n 1, 1) := by decide +kernel
theorem dX12_nextToken_268 : decode cX12_nextToken 268 = .ok (.bipush 61, 2) := by decide +kernel
theorem dX12_nextToken_270 : decode cX12_nextToken 270 = .ok (.if_icmp .eq 51, 3) := by decide +kernel
theorem dX12_nextToken_273 : decode cX12_nextToken 273 = .ok (.iload_n 1, 1) := by decide +kernel
theorem dX12_nextToken_274 : decode cX12_nextToken 274 = .ok (.bipush 35, 2) := by decide +kernel
theorem dX12_nextToken_276 : decode cX12_nextToken 276 = .ok (.if_icmp .eq 45, 3) := by decide +kernel
theorem dX12_nextToken_279 : decode cX12_nextToken 279 = .ok (.iload_n 1, 1) := by decide +kernel
theorem dX12_nextToken_280 : decode cX12_nextToken 280 = .ok (.bipush 43, 2) := by decide +kernel
theorem dX12_nextToken_282 : decode cX12_nextToken 282 = .ok (.if_icmp .eq 39, 3) := by decide +kernel
theorem dX12_nextToken_285 : decode cX12_nextToken 285 = .ok (.iload_n 1, 1) := by decide +kernel
theorem dX12_nextToken_286 : decode cX12_nextToken 286 = .ok (.bipush 45, 2) := by decide +kernel
theorem dX12_nextToken_288 : decode cX12_nextToken 288 = .ok (.if_icmp .eq 33, 3) := by decide +kernel
theorem dX12_nextToken_291 : decode cX12_nextToken 291 = .ok (.iload_n 1, 1) := by decide +kernel
theorem dX12_nextToken_292 : decode cX12_nextToken 292 = .ok (.bipush 42, 2) := by decide +kernel
theorem dX12_nextToken_294 : decode cX12_nextToken 294 = .ok (.if_icmp .eq 27, 3) := by decide +kernel
theorem dX12_nextToken_297 : decode cX12_nextToken 297 = .ok (.iload_n 1, 1) := by decide +kernel
theorem dX12_nextToken_298 : decode cX12_nextToken 298 = .ok (.bipush 47, 2) := by decide +kernel
theorem dX12_nextToken_300 : decode cX12_nextToken 300 = .ok (.if_icmp .eq 21, 3) := by decide +kernel
theorem dX12_nextToken_303 : decode cX12_nextToken 303 = .ok (.iload_n 1, 1) := by decide +kernel
theorem dX12_nextToken_304 : decode cX12_nextToken 304 = .ok (.bipush 40, 2) := by decide +kernel
theorem dX12_nextToken_306 : decode cX12_nextToken 306 = .ok (.if_icmp .eq 15, 3) := by decide +kernel
theorem dX12_nextToken_309 : decode cX12_nextToken 309 = .ok (.iload_n 1, 1) := by decide +kernel
theorem dX12_nextToken_310 : decode cX12_nextToken 310 = .ok (.bipush 41, 2) := by decide +kernel
theorem dX12_nextToken_312 : decode cX12_nextToken 312 = .ok (.if_icmp .eq 9, 3) := by decide +kernel
theorem dX12_nextToken_315 : decode cX12_nextToken 315 = .ok (.iload_n 1, 1) := by decide +kernel
theorem dX12_nextToken_316 : decode cX12_nextToken 316 = .ok (.bipush 59, 2) := by decide +kernel
theorem dX12_nextToken_318 : decode cX12_nextToken 318 = .ok (.if_icmp .ne 7, 3) := by decide +kernel
theorem dX12_nextToken_321 : decode cX12_nextToken 321 = .ok (.iconst 1, 1) := by decide +kernel
theorem dX12_nextToken_322 : decode cX12_nextToken 322 = .ok (.goto 4, 3) := by decide +kernel
theorem dX12_nextToken_325 : decode cX12_nextToken 325 = .ok (.iconst 0, 1) := by decide +kernel
theorem dX12_nextToken_326 : decode cX12_nextToken 326 = .ok (.istore_n 2, 1) := by decide +kernel
theorem dX12_nextToken_327 : decode cX12_nextToken 327 = .ok (.aload_n 0, 1) := by decide +kernel
theorem dX12_nextToken_328 : decode cX12_nextToken 328 = .ok (.iload_n 2, 1) := by decide +kernel
theorem dX12_nextToken_329 : decode cX12_nextToken 329 = .ok (.ifCond .eq 7, 3) := by decide +kernel
theorem dX12_nextToken_332 : decode cX12_nextToken 332 = .ok (.iload_n 1, 1) := by decide +kernel
theorem dX12_nextToken_333 : decode cX12_nextToken 333 = .ok (.goto 4, 3) := by decide +kernel
theorem dX12_nextToken_336 : decode cX12_nextToken 336 = .ok (.iconst 3, 1) := by decide +kernel
theorem dX12_nextToken_337 : decode cX12_nextToken 337 = .ok (.putfield 194, 3) := by decide +kernel
theorem dX12_nextToken_340 : decode cX12_nextToken 340 = .ok (.iload_n 1, 1) := by decide +kernel
theorem dX12_nextToken_341 : decode cX12_nextToken 341 = .ok (.bipush 60, 2) := by decide +kernel
theorem dX12_nextToken_343 : decode cX12_nextToken 343 = .ok (.if_icmp .eq 9, 3) := by decide +kernel
theorem dX12_nextToken_346 : decode cX12_nextToken 346 = .ok (.iload_n 1, 1) := by decide +kernel
theorem dX12_nextToken_347 : decode cX12_nextToken 347 = .ok (.bipush 62, 2) := by decide +kernel
theorem dX12_nextToken_349 : decode cX12_nextToken 349 = .ok (.if_icmp .ne 41, 3) := by decide +kernel
theorem dX12_nextToken_352 : decode cX12_nextToken 352 = .ok (.aload_n 0, 1) := by decide +kernel
theorem dX12_nextToken_353 : decode cX12_nextToken 353 = .ok (.aload_n 0, 1) := by decide +kernel
theorem dX12_nextToken_354 : decode cX12_nextToken 354 = .ok (.getfield 185, 3) := by decide +kernel
theorem dX12_nextToken_357 : decode cX12_nextToken 357 = .ok (.invokevirtual 188, 3) := by decide +kernel
theorem dX12_nextToken_360 : decode cX12_nextToken 360 = .ok (.bipush 61, 2) := by decide +kernel
theorem dX12_nextToken_362 : decode cX12_nextToken 362 = .ok (.if_icmp .ne 28, 3) := by decide +kernel
theorem dX12_nextToken_365 : decode cX12_nextToken 365 = .ok (.aload_n 0, 1) := by decide +kernel
theorem dX12_nextToken_366 : decode cX12_nextToken 366 = .ok (.dup, 1) := by decide +kernel
theorem dX12_nextToken_367 : decode cX12_nextToken 367 = .ok (.getfield 185, 3) := by decide +kernel
theorem dX12_nextToken_370 : decode cX12_nextToken 370 = .ok (.iconst 1, 1) := by decide +kernel
theorem dX12_nextToken_371 : decode cX12_nextToken 371 = .ok (.iadd, 1) := by decide +kernel
theorem dX12_nextToken_372 : decode cX12_nextToken 372 = .ok (.putfield 185, 3) := by decide +kernel
theorem dX12_nextToken_375 : decode cX12_nextToken 375 = .ok (.aload_n 0, 1) := by decide +kernel
theorem dX12_nextToken_376 : decode cX12_nextToken 376 = .ok (.iload_n 1, 1) := by decide +kernel
theorem dX12_nextToken_377 : decode cX12_nextToken 377 = .ok (.bipush 60, 2) := by decide +kernel
theorem dX12_nextToken_379 : decode cX12_nextToken 379 = .ok (.if_icmp .ne 7, 3) := by decide +kernel
theorem dX12_nextToken_382 : decode cX12_nextToken 382 = .ok (.iconst 4, 1) := by decide +kernel
theorem dX12_nextToken_383 : decode cX12_nextToken 383 = .ok (.goto 4, 3) := by decide +kernel
theorem dX12_nextToken_386 : decode cX12_nextToken 386 = .ok (.iconst 5, 1) := by decide +kernel
theorem dX12_nextToken_387 : decode cX12_nextToken 387 = .ok (.putfield 194, 3) := by decide +kernel
theorem dX12_nextToken_390 : decode cX12_nextToken 390 = .ok (.return_, 1) := by decide +kernel
theorem dX12_w3_0 : decode cX12_w3 0 = .ok (.iload_n 0, 1) := by decide +kernel
theorem dX12_w3_1 : decode cX12_w3 1 = .ok (.i2l, 1) := by decide +kernel
theorem dX12_w3_2 : decode cX12_w3 2 = .ok (.bipush 8, 2) := by decide +kernel
theorem dX12_w3_4 : decode cX12_w3 4 = .ok (.lshl, 1) := by decide +kernel
theorem dX12_w3_5 : decode cX12_w3 5 = .ok (.iload_n 1, 1) := by decide +kernel
theorem dX12_w3_6 : decode cX12_w3 6 = .ok (.i2l, 1) := by decide +kernel
theorem dX12_w3_7 : decode cX12_w3 7 = .ok (.lor, 1) := by decide +kernel
theorem dX12_w3_8 : decode cX12_w3 8 = .ok (.bipush 8, 2) := by decide +kernel
theorem dX12_w3_10 : decode cX12_w3 10 = .ok (.lshl, 1) := by decide +kernel
theorem dX12_w3_11 : decode cX12_w3 11 = .ok (.iload_n 2, 1) := by decide +kernel
theorem dX12_w3_12 : decode cX12_w3 12 = .ok (.i2l, 1) := by decide +kernel
theorem dX12_w3_13 : decode cX12_w3 13 = .ok (.lor, 1) := by decide +kernel
theorem dX12_w3_14 : decode cX12_w3 14 = .ok (.lreturn, 1) := by decide +kernel
theorem dX12_w5_0 : decode cX12_w5 0 = .ok (.iload_n 0, 1) := by decide +kernel
theorem dX12_w5_1 : decode cX12_w5 1 = .ok (.iload_n 1, 1) := by decide +kernel
theorem dX12_w5_2 : decode cX12_w5 2 = .ok (.iload_n 2, 1) := by decide +kernel
theorem dX12_w5_3 : decode cX12_w5 3 = .ok (.invokestatic 211, 3) := by decide +kernel
theorem dX12_w5_6 : decode cX12_w5 6 = .ok (.bipush 8, 2) := by decide +kernel
theorem dX12_w5_8 : decode cX12_w5 8 = .ok (.lshl, 1) := by decide +kernel
theorem dX12_w5_9 : decode cX12_w5 9 = .ok (.iload_n 3, 1) := by decide +kernel
theorem dX12_w5_10 : decode cX12_w5 10 = .ok (.i2l, 1) := by decide +kernel
theorem dX12_w5_11 : decode cX12_w5 11 = .ok (.lor, 1) := by decide +kernel
theorem dX12_w5_12 : decode cX12_w5 12 = .ok (.bipush 8, 2) := by decide +kernel
theorem dX12_w5_14 : decode cX12_w5 14 = .ok (.lshl, 1) := by decide +kernel
theorem dX12_w5_15 : decode cX12_w5 15 = .ok (.iload 4, 2) := by decide +kernel
theorem dX12_w5_17 : decode cX12_w5 17 = .ok (.i2l, 1) := by decide +kernel
theorem dX12_w5_18 : decode cX12_w5 18 = .ok (.lor, 1) := by decide +kernel
theorem dX12_w5_19 : decode cX12_w5 19 = .ok (.lreturn, 1) := by decide +kernel
theorem dX12_w4_0 : decode cX12_w4 0 = .ok (.iload_n 0, 1) := by decide +kernel
theorem dX12_w4_1 : decode cX12_w4 1 = .ok (.iload_n 1, 1) := by decide +kernel
theorem dX12_w4_2 : decode cX12_w4 2 = .ok (.iload_n 2, 1) := by decide +kernel
theorem dX12_w4_3 : decode cX12_w4 3 = .ok (.invokestatic 211, 3) := by decide +kernel
theorem dX12_w4_6 : decode cX12_w4 6 = .ok (.bipush 8, 2) := by decide +kernel
theorem dX12_w4_8 : decode cX12_w4 8 = .ok (.lshl, 1) := by decide +kernel
theorem dX12_w4_9 : decode cX12_w4 9 = .ok (.iload_n 3, 1) := by decide +kernel
theorem dX12_w4_10 : decode cX12_w4 10 = .ok (.i2l, 1) := by decide +kernel
theorem dX12_w4_11 : decode cX12_w4 11 = .ok (.lor, 1) := by decide +kernel
theorem dX12_w4_12 : decode cX12_w4 12 = .ok (.lreturn, 1) := by decide +kernel
theorem dX12_w6_0 : decode cX12_w6 0 = .ok (.iload_n 0, 1) := by decide +kernel
theorem dX12_w6_1 : decode cX12_w6 1 = .ok (.iload_n 1, 1) := by decide +kernel
theorem dX12_w6_2 : decode cX12_w6 2 = .ok (.iload_n 2, 1) := by decide +kernel
theorem dX12_w6_3 : decode cX12_w6 3 = .ok (.iload_n 3, 1) := by decide +kernel
theorem dX12_w6_4 : decode cX12_w6 4 = .ok (.iload 4, 2) := by decide +kernel
theorem dX12_w6_6 : decode cX12_w6 6 = .ok (.invokestatic 215, 3) := by decide +kernel
theorem dX12_w6_9 : decode cX12_w6 9 = .ok (.bipush 8, 2) := by decide +kernel
theorem dX12_w6_11 : decode cX12_w6 11 = .ok (.lshl, 1) := by decide +kernel
theorem dX12_w6_12 : decode cX12_w6 12 = .ok (.iload 5, 2) := by decide +kernel
theorem dX12_w6_14 : decode cX12_w6 14 = .ok (.i2l, 1) := by decide +kernel
theorem dX12_w6_15 : decode cX12_w6 15 = .ok (.lor, 1) := by decide +kernel
theorem dX12_w6_16 : decode cX12_w6 16 = .ok (.lreturn, 1) := by decide +kernel
theorem dX12_isWord_0 : decode cX12_isWord 0 = .ok (.aload_n 0, 1) := by decide +kernel
theorem dX12_isWord_1 : decode cX12_isWord 1 = .ok (.getfield 194, 3) := by decide +kernel
theorem dX12_isWord_4 : decode cX12_isWord 4 = .ok (.iconst 2, 1) := by decide +kernel
theorem dX12_isWord_5 : decode cX12_isWord 5 = .ok (.if_icmp .ne 16, 3) := by decide +kernel
theorem dX12_isWord_8 : decode cX12_isWord 8 = .ok (.aload_n 0, 1) := by decide +kernel
theorem dX12_isWord_9 : decode cX12_isWord 9 = .ok (.getfield 207, 3) := by decide +kernel
theorem dX12_isWord_12 : decode cX12_isWord 12 = .ok (.lload_n 1, 1) := by decide +kernel
theorem dX12_isWord_13 : decode cX12_isWord 13 = .ok (.lcmp, 1) := by decide +kernel
theorem dX12_isWord_14 : decode cX12_isWord 14 = .ok (.ifCond .ne 7, 3) := by decide +kernel
theorem dX12_isWord_17 : decode cX12_isWord 17 = .ok (.iconst 1, 1) := by decide +kernel
theorem dX12_isWord_18 : decode cX12_isWord 18 = .ok (.goto 4, 3) := by decide +kernel
theorem dX12_isWord_21 : decode cX12_isWord 21 = .ok (.iconst 0, 1) := by decide +kernel
theorem dX12_isWord_22 : decode cX12_isWord 22 = .ok (.ireturn, 1) := by decide +kernel
theorem dX12_emit_0 : decode cX12_emit 0 = .ok (.aload_n 0, 1) := by decide +kernel
theorem dX12_emit_1 : decode cX12_emit 1 = .ok (.getfield 16, 3) := by decide +kernel
theorem dX12_emit_4 : decode cX12_emit 4 = .ok (.aload_n 0, 1) := by decide +kernel
theorem dX12_emit_5 : decode cX12_emit 5 = .ok (.getfield 219, 3) := by decide +kernel
theorem dX12_emit_8 : decode cX12_emit 8 = .ok (.sipush 130, 3) := by decide +kernel
theorem dX12_emit_11 : decode cX12_emit 11 = .ok (.iadd, 1) := by decide +kernel
theorem dX12_emit_12 : decode cX12_emit 12 = .ok (.iconst 2, 1) := by decide +kernel
theorem dX12_emit_13 : decode cX12_emit 13 = .ok (.aload_n 0, 1) := by decide +kernel
theorem dX12_emit_14 : decode cX12_emit 14 = .ok (.getfield 222, 3) := by decide +kernel
theorem dX12_emit_17 : decode cX12_emit 17 = .ok (.imul, 1) := by decide +kernel
theorem dX12_emit_18 : decode cX12_emit 18 = .ok (.iadd, 1) := by decide +kernel
theorem dX12_emit_19 : decode cX12_emit 19 = .ok (.iload_n 1, 1) := by decide +kernel
theorem dX12_emit_20 : decode cX12_emit 20 = .ok (.iastore, 1) := by decide +kernel
theorem dX12_emit_21 : decode cX12_emit 21 = .ok (.aload_n 0, 1) := by decide +kernel
theorem dX12_emit_22 : decode cX12_emit 22 = .ok (.getfield 16, 3) := by decide +kernel
theorem dX12_emit_25 : decode cX12_emit 25 = .ok (.aload_n 0, 1) := by decide +kernel
theorem dX12_emit_26 : decode cX12_emit 26 = .ok (.getfield 219, 3) := by decide +kernel
theorem dX12_emit_29 : decode cX12_emit 29 = .ok (.sipush 130, 3) := by decide +kernel
theorem dX12_emit_32 : decode cX12_emit 32 = .ok (.iadd, 1) := by decide +kernel
theorem dX12_emit_33 : decode cX12_emit 33 = .ok (.iconst 2, 1) := by decide +kernel
theorem dX12_emit_34 : decode cX12_emit 34 = .ok (.aload_n 0, 1) := by decide +kernel
theorem dX12_emit_35 : decode cX12_emit 35 = .ok (.getfield 222, 3) := by decide +kernel
theorem dX12_emit_38 : decode cX12_emit 38 = .ok (.imul, 1) := by decide +kernel
theorem dX12_emit_39 : decode cX12_emit 39 = .ok (.iadd, 1) := by decide +kernel
theorem dX12_emit_40 : decode cX12_emit 40 = .ok (.iconst 1, 1) := by decide +kernel
theorem dX12_emit_41 : decode cX12_emit 41 = .ok (.iadd, 1) := by decide +kernel
theorem dX12_emit_42 : decode cX12_emit 42 = .ok (.iload_n 2, 1) := by decide +kernel
theorem dX12_emit_43 : decode cX12_emit 43 = .ok (.iastore, 1) := by decide +kernel
theorem dX12_emit_44 : decode cX12_emit 44 = .ok (.aload_n 0, 1) := by decide +kernel
theorem dX12_emit_45 : decode cX12_emit 45 = .ok (.dup, 1) := by decide +kernel
theorem dX12_emit_46 : decode cX12_emit 46 = .ok (.getfield 222, 3) := by decide +kernel
theorem dX12_emit_49 : decode cX12_emit 49 = .ok (.iconst 1, 1) := by decide +kernel
theorem dX12_emit_50 : decode cX12_emit 50 = .ok (.iadd, 1) := by decide +kernel
theorem dX12_emit_51 : decode cX12_emit 51 = .ok (.putfield 222, 3) := by decide +kernel
theorem dX12_emit_54 : decode cX12_emit 54 = .ok (.return_, 1) := by decide +kernel
theorem dX12_push_0 : decode cX12_push 0 = .ok (.aload_n 0, 1) := by decide +kernel
theorem dX12_push_1 : decode cX12_push 1 = .ok (.getfield 64, 3) := by decide +kernel
theorem dX12_push_4 : decode cX12_push 4 = .ok (.aload_n 0, 1) := by decide +kernel
theorem dX12_push_5 : decode cX12_push 5 = .ok (.getfield 225, 3) := by decide +kernel
theorem dX12_push_8 : decode cX12_push 8 = .ok (.iload_n 1, 1) := by decide +kernel
theorem dX12_push_9 : decode cX12_push 9 = .ok (.iastore, 1) := by decide +kernel
theorem dX12_push_10 : decode cX12_push 10 = .ok (.aload_n 0, 1) := by decide +kernel
theorem dX12_push_11 : decode cX12_push 11 = .ok (.dup, 1) := by decide +kernel
theorem dX12_push_12 : decode cX12_push 12 = .ok (.getfield 225, 3) := by decide +kernel
theorem dX12_push_15 : decode cX12_push 15 = .ok (.iconst 1, 1) := by decide +kernel
theorem dX12_push_16 : decode cX12_push 16 = .ok (.iadd, 1) := by decide +kernel
theorem dX12_push_17 : decode cX12_push 17 = .ok (.putfield 225, 3) := by decide +kernel
theorem dX12_push_20 : decode cX12_push 20 = .ok (.return_, 1) := by decide +kernel
theorem dX12_whole_0 : decode cX12_whole 0 = .ok (.aload_n 0, 1) := by decide +kernel
theorem dX12_whole_1 : decode cX12_whole 1 = .ok (.iconst 1, 1) := by decide +kernel
theorem dX12_whole_2 : decode cX12_whole 2 = .ok (.putfield 228, 3) := by decide +kernel
theorem dX12_whole_5 : decode cX12_whole 5 = .ok (.aload_n 0, 1) := by decide +kernel
theorem dX12_whole_6 : decode cX12_whole 6 = .ok (.getfield 225, 3) := by decide +kernel
theorem dX12_whole_9 : decode cX12_whole 9 = .ok (.ifCond .le 47, 3) := by decide +kernel
theorem dX12_whole_12 : decode cX12_whole 12 = .ok (.aload_n 0, 1) := by decide +kernel
theorem dX12_whole_13 : decode cX12_whole 13 = .ok (.getfield 64, 3) := by decide +kernel
theorem dX12_whole_16 : decode cX12_whole 16 = .ok (.aload_n 0, 1) := by decide +kernel
theorem dX12_whole_17 : decode cX12_whole 17 = .ok (.getfield 225, 3) := by decide +kernel
theorem dX12_whole_20 : decode cX12_whole 20 = .ok (.iconst 1, 1) := by decide +kernel
theorem dX12_whole_21 : decode cX12_whole 21 = .ok (.isub, 1) := by decide +kernel
theorem dX12_whole_22 : decode cX12_whole 22 = .ok (.iaload, 1) := by decide +kernel
theorem dX12_whole_23 : decode cX12_whole 23 = .ok (.iconst 2, 1) := by decide +kernel
theorem dX12_whole_24 : decode cX12_whole 24 = .ok (.if_icmp .ne 32, 3) := by decide +kernel
theorem dX12_whole_27 : decode cX12_whole 27 = .ok (.aload_n 0, 1) := by decide +kernel
theorem dX12_whole_28 : decode cX12_whole 28 = .ok (.dup, 1) := by decide +kernel
theorem dX12_whole_29 : decode cX12_whole 29 = .ok (.getfield 225, 3) := by decide +kernel
theorem dX12_whole_32 : decode cX12_whole 32 = .ok (.iconst 1, 1) := by decide +kernel
theorem dX12_whole_33 : decode cX12_whole 33 = .ok (.isub, 1) := by decide +kernel
theorem dX12_whole_34 : decode cX12_whole 34 = .ok (.putfield 225, 3) := by decide +kernel
theorem dX12_whole_37 : decode cX12_whole 37 = .ok (.aload_n 0, 1) := by decide +kernel
theorem dX12_whole_38 : decode cX12_whole 38 = .ok (.dup, 1) := by decide +kernel
theorem dX12_whole_39 : decode cX12_whole 39 = .ok (.getfield 232, 3) := by decide +kernel
theorem dX12_whole_42 : decode cX12_whole 42 = .ok (.iconst 1, 1) := by decide +kernel
theorem dX12_whole_43 : decode cX12_whole 43 = .ok (.isub, 1) := by decide +kernel
theorem dX12_whole_44 : decode cX12_whole 44 = .ok (.putfield 232, 3) := by decide +kernel
theorem dX12_whole_47 : decode cX12_whole 47 = .ok (.aload_n 0, 1) := by decide +kernel
theorem dX12_whole_48 : decode cX12_whole 48 = .ok (.iconst 2, 1) := by decide +kernel
theorem dX12_whole_49 : decode cX12_whole 49 = .ok (.iconst 0, 1) := by decide +kernel
theorem dX12_whole_50 : decode cX12_whole 50 = .ok (.invokevirtual 235, 3) := by decide +kernel
theorem dX12_whole_53 : decode cX12_whole 53 = .ok (.goto (-48), 3) := by decide +kernel
theorem dX12_whole_56 : decode cX12_whole 56 = .ok (.return_, 1) := by decide +kernel
theorem dX12_settle_0 : decode cX12_settle 0 = .ok (.aload_n 0, 1) := by decide +kernel
theorem dX12_settle_1 : decode cX12_settle 1 = .ok (.getfield 225, 3) := by decide +kernel
theorem dX12_settle_4 : decode cX12_settle 4 = .ok (.ifCond .le 61, 3) := by decide +kernel
theorem dX12_settle_7 : decode cX12_settle 7 = .ok (.aload_n 0, 1) := by decide +kernel
theorem dX12_settle_8 : decode cX12_settle 8 = .ok (.getfield 64, 3) := by decide +kernel
theorem dX12_settle_11 : decode cX12_settle 11 = .ok (.aload_n 0, 1) := by decide +kernel
theorem dX12_settle_12 : decode cX12_settle 12 = .ok (.getfield 225, 3) := by decide +kernel
theorem dX12_settle_15 : decode cX12_settle 15 = .ok (.iconst 1, 1) := by decide +kernel
theorem dX12_settle_16 : decode cX12_settle 16 = .ok (.isub, 1) := by decide +kernel
theorem dX12_settle_17 : decode cX12_settle 17 = .ok (.iaload, 1) := by decide +kernel
theorem dX12_settle_18 : decode cX12_settle 18 = .ok (.bipush 40, 2) := by decide +kernel
theorem dX12_settle_20 : decode cX12_settle 20 = .ok (.if_icmp .ge 45, 3) := by decide +kernel
theorem dX12_settle_23 : decode cX12_settle 23 = .ok (.aload_n 0, 1) := by decide +kernel
theorem dX12_settle_24 : decode cX12_settle 24 = .ok (.getfield 64, 3) := by decide +kernel
theorem dX12_settle_27 : decode cX12_settle 27 = .ok (.aload_n 0, 1) := by decide +kernel
theorem dX12_settle_28 : decode cX12_settle 28 = .ok (.getfield 225, 3) := by decide +kernel
theorem dX12_settle_31 : decode cX12_settle 31 = .ok (.iconst 1, 1) := by decide +kernel
theorem dX12_settle_32 : decode cX12_settle 32 = .ok (.isub, 1) := by decide +kernel
theorem dX12_settle_33 : decode cX12_settle 33 = .ok (.iaload, 1) := by decide +kernel
theorem dX12_settle_34 : decode cX12_settle 34 = .ok (.iload_n 1, 1) := by decide +kernel
theorem dX12_settle_35 : decode cX12_settle 35 = .ok (.if_icmp .lt 30, 3) := by decide +kernel
theorem dX12_settle_38 : decode cX12_settle 38 = .ok (.aload_n 0, 1) := by decide +kernel
theorem dX12_settle_39 : decode cX12_settle 39 = .ok (.dup, 1) := by decide +kernel
theorem dX12_settle_40 : decode cX12_settle 40 = .ok (.getfield 225, 3) := by decide +kernel
theorem dX12_settle_43 : decode cX12_settle 43 = .ok (.iconst 1, 1) := by decide +kernel
theorem dX12_settle_44 : decode cX12_settle 44 = .ok (.isub, 1) := by decide +kernel
theorem dX12_settle_45 : decode cX12_settle 45 = .ok (.putfield 225, 3) := by decide +kernel
theorem dX12_settle_48 : decode cX12_settle 48 = .ok (.aload_n 0, 1) := by decide +kernel
theorem dX12_settle_49 : decode cX12_settle 49 = .ok (.aload_n 0, 1) := by decide +kernel
theorem dX12_settle_50 : decode cX12_settle 50 = .ok (.getfield 64, 3) := by decide +kernel
theorem dX12_settle_53 : decode cX12_settle 53 = .ok (.aload_n 0, 1) := by decide +kernel
theorem dX12_settle_54 : decode cX12_settle 54 = .ok (.getfield 225, 3) := by decide +kernel
theorem dX12_settle_57 : decode cX12_settle 57 = .ok (.iaload, 1) := by decide +kernel
theorem dX12_settle_58 : decode cX12_settle 58 = .ok (.iconst 0, 1) := by decide +kernel
theorem dX12_settle_59 : decode cX12_settle 59 = .ok (.invokevirtual 235, 3) := by decide +kernel
theorem dX12_settle_62 : decode cX12_settle 62 = .ok (.goto (-62), 3) := by decide +kernel
theorem dX12_settle_65 : decode cX12_settle 65 = .ok (.return_, 1) := by decide +kernel
theorem dX12_nameOf_0 : decode cX12_nameOf 0 = .ok (.aload_n 0, 1) := by decide +kernel
theorem dX12_nameOf_1 : decode cX12_nameOf 1 = .ok (.getfield 194, 3) := by decide +kernel
theorem dX12_nameOf_4 : decode cX12_nameOf 4 = .ok (.iconst 2, 1) := by decide +kernel
theorem dX12_nameOf_5 : decode cX12_nameOf 5 = .ok (.if_icmp .eq 5, 3) := by decide +kernel
theorem dX12_nameOf_8 : decode cX12_nameOf 8 = .ok (.iconst (-1), 1) := by decide +kernel
theorem dX12_nameOf_9 : decode cX12_nameOf 9 = .ok (.ireturn, 1) := by decide +kernel
theorem dX12_nameOf_10 : decode cX12_nameOf 10 = .ok (.aload_n 0, 1) := by decide +kernel
theorem dX12_nameOf_11 : decode cX12_nameOf 11 = .ok (.getfield 207, 3) := by decide +kernel
theorem dX12_nameOf_14 : decode cX12_nameOf 14 = .ok (.bipush 103, 2) := by decide +kernel
theorem dX12_nameOf_16 : decode cX12_nameOf 16 = .ok (.bipush 97, 2) := by decide +kernel
theorem dX12_nameOf_18 : decode cX12_nameOf 18 = .ok (.bipush 115, 2) := by decide +kernel
theorem dX12_nameOf_20 : decode cX12_nameOf 20 = .ok (.invokestatic 211, 3) := by decide +kernel
theorem dX12_nameOf_23 : decode cX12_nameOf 23 = .ok (.lcmp, 1) := by decide +kernel
theorem dX12_nameOf_24 : decode cX12_nameOf 24 = .ok (.ifCond .ne 5, 3) := by decide +kernel
theorem dX12_nameOf_27 : decode cX12_nameOf 27 = .ok (.iconst 0, 1) := by decide +kernel
theorem dX12_nameOf_28 : decode cX12_nameOf 28 = .ok (.ireturn, 1) := by decide +kernel
theorem dX12_nameOf_29 : decode cX12_nameOf 29 = .ok (.aload_n 0, 1) := by decide +kernel
theorem dX12_nameOf_30 : decode cX12_nameOf 30 = .ok (.getfield 207, 3) := by decide +kernel
theorem dX12_nameOf_33 : decode cX12_nameOf 33 = .ok (.bipush 99, 2) := by decide +kernel
theorem dX12_nameOf_35 : decode cX12_nameOf 35 = .ok (.bipush 114, 2) := by decide +kernel
theorem dX12_nameOf_37 : decode cX12_nameOf 37 = .ok (.bipush 97, 2) := by decide +kernel
theorem dX12_nameOf_39 : decode cX12_nameOf 39 = .ok (.bipush 99, 2) := by decide +kernel
theorem dX12_nameOf_41 : decode cX12_nameOf 41 = .ok (.bipush 107, 2) := by decide +kernel
theorem dX12_nameOf_43 : decode cX12_nameOf 43 = .ok (.bipush 115, 2) := by decide +kernel
theorem dX12_nameOf_45 : decode cX12_nameOf 45 = .ok (.invokestatic 238, 3) := by decide +kernel
theorem dX12_nameOf_48 : decode cX12_nameOf 48 = .ok (.lcmp, 1) := by decide +kernel
theorem dX12_nameOf_49 : decode cX12_nameOf 49 = .ok (.ifCond .ne 5, 3) := by decide +kernel
theorem dX12_nameOf_52 : decode cX12_nameOf 52 = .ok (.iconst 1, 1) := by decide +kernel
theorem dX12_nameOf_53 : decode cX12_nameOf 53 = .ok (.ireturn, 1) := by decide +kernel
theorem dX12_nameOf_54 : decode cX12_nameOf 54 = .ok (.aload_n 0, 1) := by decide +kernel
theorem dX12_nameOf_55 : decode cX12_nameOf 55 = .ok (.getfield 207, 3) := by decide +kernel
theorem dX12_nameOf_58 : decode cX12_nameOf 58 = .ok (.bipush 115, 2) := by decide +kernel
theorem dX12_nameOf_60 : decode cX12_nameOf 60 = .ok (.bipush 105, 2) := by decide +kernel
theorem dX12_nameOf_62 : decode cX12_nameOf 62 = .ok (.bipush 122, 2) := by decide +kernel
theorem dX12_nameOf_64 : decode cX12_nameOf 64 = .ok (.bipush 101, 2) := by decide +kernel
theorem dX12_nameOf_66 : decode cX12_nameOf 66 = .ok (.invokestatic 242, 3) := by decide +kernel
theorem dX12_nameOf_69 : decode cX12_nameOf 69 = .ok (.lcmp, 1) := by decide +kernel
theorem dX12_nameOf_70 : decode cX12_nameOf 70 = .ok (.ifCond .ne 5, 3) := by decide +kernel
theorem dX12_nameOf_73 : decode cX12_nameOf 73 = .ok (.iconst 2, 1) := by decide +kernel
theorem dX12_nameOf_74 : decode cX12_nameOf 74 = .ok (.ireturn, 1) := by decide +kernel
theorem dX12_nameOf_75 : decode cX12_nameOf 75 = .ok (.aload_n 0, 1) := by decide +kernel
theorem dX12_nameOf_76 : decode cX12_nameOf 76 = .ok (.getfield 207, 3) := by decide +kernel
theorem dX12_nameOf_79 : decode cX12_nameOf 79 = .ok (.bipush 119, 2) := by decide +kernel
theorem dX12_nameOf_81 : decode cX12_nameOf 81 = .ok (.bipush 101, 2) := by decide +kernel
theorem dX12_nameOf_83 : decode cX12_nameOf 83 = .ok (.bipush 101, 2) := by decide +kernel
theorem dX12_nameOf_85 : decode cX12_nameOf 85 = .ok (.bipush 107, 2) := by decide +kernel
theorem dX12_nameOf_87 : decode cX12_nameOf 87 = .ok (.invokestatic 242, 3) := by decide +kernel
theorem dX12_nameOf_90 : decode cX12_nameOf 90 = .ok (.lcmp, 1) := by decide +kernel
theorem dX12_nameOf_91 : decode cX12_nameOf 91 = .ok (.ifCond .ne 6, 3) := by decide +kernel
theorem dX12_nameOf_94 : decode cX12_nameOf 94 = .ok (.bipush 7, 2) := by decide +kernel
theorem dX12_nameOf_96 : decode cX12_nameOf 96 = .ok (.ireturn, 1) := by decide +kernel
theorem dX12_nameOf_97 : decode cX12_nameOf 97 = .ok (.aload_n 0, 1) := by decide +kernel
theorem dX12_nameOf_98 : decode cX12_nameOf 98 = .ok (.getfield 207, 3) := by decide +kernel
theorem dX12_nameOf_101 : decode cX12_nameOf 101 = .ok (.bipush 112, 2) := by decide +kernel
theorem dX12_nameOf_103 : decode cX12_nameOf 103 = .ok (.bipush 101, 2) := by decide +kernel
theorem dX12_nameOf_105 : decode cX12_nameOf 105 = .ok (.bipush 111, 2) := by decide +kernel
theorem dX12_nameOf_107 : decode cX12_nameOf 107 = .ok (.bipush 112, 2) := by decide +kernel
theorem dX12_nameOf_109 : decode cX12_nameOf 109 = .ok (.bipush 108, 2) := by decide +kernel
theorem dX12_nameOf_111 : decode cX12_nameOf 111 = .ok (.bipush 101, 2) := by decide +kernel
theorem dX12_nameOf_113 : decode cX12_nameOf 113 = .ok (.invokestatic 238, 3) := by decide +kernel
theorem dX12_nameOf_116 : decode cX12_nameOf 116 = .ok (.lcmp, 1) := by decide +kernel
theorem dX12_nameOf_117 : decode cX12_nameOf 117 = .ok (.ifCond .ne 5, 3) := by decide +kernel
theorem dX12_nameOf_120 : decode cX12_nameOf 120 = .ok (.iconst 3, 1) := by decide +kernel
theorem dX12_nameOf_121 : decode cX12_nameOf 121 = .ok (.ireturn, 1) := by decide +kernel
theorem dX12_nameOf_122 : decode cX12_nameOf 122 = .ok (.aload_n 0, 1) := by decide +kernel
theorem dX12_nameOf_123 : decode cX12_nameOf 123 = .ok (.getfield 207, 3) := by decide +kernel
theorem dX12_nameOf_126 : decode cX12_nameOf 126 = .ok (.bipush 104, 2) := by decide +kernel
theorem dX12_nameOf_128 : decode cX12_nameOf 128 = .ok (.bipush 101, 2) := by decide +kernel
theorem dX12_nameOf_130 : decode cX12_nameOf 130 = .ok (.bipush 97, 2) := by decide +kernel
theorem dX12_nameOf_132 : decode cX12_nameOf 132 = .ok (.bipush 114, 2) := by decide +kernel
theorem dX12_nameOf_134 : decode cX12_nameOf 134 = .ok (.bipush 100, 2) := by decide +kernel
theorem dX12_nameOf_136 : decode cX12_nameOf 136 = .ok (.invokestatic 215, 3) := by decide +kernel
theorem dX12_nameOf_139 : decode cX12_nameOf 139 = .ok (.lcmp, 1) := by decide +kernel
theorem dX12_nameOf_140 : decode cX12_nameOf 140 = .ok (.ifCond .ne 5, 3) := by decide +kernel
theorem dX12_nameOf_143 : decode cX12_nameOf 143 = .ok (.iconst 4, 1) := by decide +kernel
theorem dX12_nameOf_144 : decode cX12_nameOf 144 = .ok (.ireturn, 1) := by decide +kernel
theorem dX12_nameOf_145 : decode cX12_nameOf 145 = .ok (.aload_n 0, 1) := by decide +kernel
theorem dX12_nameOf_146 : decode cX12_nameOf 146 = .ok (.getfield 207, 3) := by decide +kernel
theorem dX12_nameOf_149 : decode cX12_nameOf 149 = .ok (.bipush 97, 2) := by decide +kernel
theorem dX12_nameOf_151 : decode cX12_nameOf 151 = .ok (.bipush 115, 2) := by decide +kernel
theorem dX12_nameOf_153 : decode cX12_nameOf 153 = .ok (.bipush 107, 2) := by decide +kernel
theorem dX12_nameOf_155 : decode cX12_nameOf 155 = .ok (.invokestatic 211, 3) := by decide +kernel
theorem dX12_nameOf_158 : decode cX12_nameOf 158 = .ok (.lcmp, 1) := by decide +kernel
theorem dX12_nameOf_159 : decode cX12_nameOf 159 = .ok (.ifCond .ne 7, 3) := by decide +kernel
theorem dX12_nameOf_162 : decode cX12_nameOf 162 = .ok (.iconst 5, 1) := by decide +kernel
theorem dX12_nameOf_163 : decode cX12_nameOf 163 = .ok (.goto 26, 3) := by decide +kernel
theorem dX12_nameOf_166 : decode cX12_nameOf 166 = .ok (.aload_n 0, 1) := by decide +kernel
theorem dX12_nameOf_167 : decode cX12_nameOf 167 = .ok (.getfield 207, 3) := by decide +kernel
theorem dX12_nameOf_170 : decode cX12_nameOf 170 = .ok (.bipush 107, 2) := by decide +kernel
theorem dX12_nameOf_172 : decode cX12_nameOf 172 = .ok (.bipush 105, 2) := by decide +kernel
theorem dX12_nameOf_174 : decode cX12_nameOf 174 = .ok (.bipush 110, 2) := by decide +kernel
theorem dX12_nameOf_176 : decode cX12_nameOf 176 = .ok (.invokestatic 211, 3) := by decide +kernel
theorem dX12_nameOf_179 : decode cX12_nameOf 179 = .ok (.lcmp, 1) := by decide +kernel
theorem dX12_nameOf_180 : decode cX12_nameOf 180 = .ok (.ifCond .ne 8, 3) := by decide +kernel
theorem dX12_nameOf_183 : decode cX12_nameOf 183 = .ok (.bipush 6, 2) := by decide +kernel
theorem dX12_nameOf_185 : decode cX12_nameOf 185 = .ok (.goto 4, 3) := by decide +kernel
theorem dX12_nameOf_188 : decode cX12_nameOf 188 = .ok (.iconst (-1), 1) := by decide +kernel
theorem dX12_nameOf_189 : decode cX12_nameOf 189 = .ok (.ireturn, 1) := by decide +kernel
theorem dX12_isBarred_0 : decode cX12_isBarred 0 = .ok (.aload_n 0, 1) := by decide +kernel
theorem dX12_isBarred_1 : decode cX12_isBarred 1 = .ok (.getfield 246, 3) := by decide +kernel
theorem dX12_isBarred_4 : decode cX12_isBarred 4 = .ok (.iconst 3, 1) := by decide +kernel
theorem dX12_isBarred_5 : decode cX12_isBarred 5 = .ok (.if_icmp .ne 22, 3) := by decide +kernel
theorem dX12_isBarred_8 : decode cX12_isBarred 8 = .ok (.iload_n 1, 1) := by decide +kernel
theorem dX12_isBarred_9 : decode cX12_isBarred 9 = .ok (.iconst 3, 1) := by decide +kernel
theorem dX12_isBarred_10 : decode cX12_isBarred 10 = .ok (.if_icmp .eq 13, 3) := by decide +kernel
theorem dX12_isBarred_13 : decode cX12_isBarred 13 = .ok (.iload_n 1, 1) := by decide +kernel
theorem dX12_isBarred_14 : decode cX12_isBarred 14 = .ok (.bipush 7, 2) := by decide +kernel
theorem dX12_isBarred_16 : decode cX12_isBarred 16 = .ok (.if_icmp .eq 7, 3) := by decide +kernel
theorem dX12_isBarred_19 : decode cX12_isBarred 19 = .ok (.iconst 1, 1) := by decide +kernel
theorem dX12_isBarred_20 : decode cX12_isBarred 20 = .ok (.goto 30, 3) := by decide +kernel
theorem dX12_isBarred_23 : decode cX12_isBarred 23 = .ok (.iconst 0, 1) := by decide +kernel
theorem dX12_isBarred_24 : decode cX12_isBarred 24 = .ok (.goto 26, 3) := by decide +kernel
theorem dX12_isBarred_27 : decode cX12_isBarred 27 = .ok (.aload_n 0, 1) := by decide +kernel
theorem dX12_isBarred_28 : decode cX12_isBarred 28 = .ok (.getfield 246, 3) := by decide +kernel
theorem dX12_isBarred_31 : decode cX12_isBarred 31 = .ok (.iconst 4, 1) := by decide +kernel
theorem dX12_isBarred_32 : decode cX12_isBarred 32 = .ok (.if_icmp .eq 17, 3) := by decide +kernel
theorem dX12_isBarred_35 : decode cX12_isBarred 35 = .ok (.iload_n 1, 1) := by decide +kernel
theorem dX12_isBarred_36 : decode cX12_isBarred 36 = .ok (.iconst 4, 1) := by decide +kernel
theorem dX12_isBarred_37 : decode cX12_isBarred 37 = .ok (.bipush 6, 2) := by decide +kernel
theorem dX12_isBarred_39 : decode cX12_isBarred 39 = .ok (.invokestatic 96, 3) := by decide +kernel
theorem dX12_isBarred_42 : decode cX12_isBarred 42 = .ok (.ifCond .eq 7, 3) := by decide +kernel
theorem dX12_isBarred_45 : decode cX12_isBarred 45 = .ok (.iconst 1, 1) := by decide +kernel
theorem dX12_isBarred_46 : decode cX12_isBarred 46 = .ok (.goto 4, 3) := by decide +kernel
theorem dX12_isBarred_49 : decode cX12_isBarred 49 = .ok (.iconst 0, 1) := by decide +kernel
theorem dX12_isBarred_50 : decode cX12_isBarred 50 = .ok (.ireturn, 1) := by decide +kernel
theorem dX12_beginOne_0 : decode cX12_beginOne 0 = .ok (.aload_n 0, 1) := by decide +kernel
theorem dX12_beginOne_1 : decode cX12_beginOne 1 = .ok (.getfield 194, 3) := by decide +kernel
theorem dX12_beginOne_4 : decode cX12_beginOne 4 = .ok (.iconst 1, 1) := by decide +kernel
theorem dX12_beginOne_5 : decode cX12_beginOne 5 = .ok (.if_icmp .ne 34, 3) := by decide +kernel
theorem dX12_beginOne_8 : decode cX12_beginOne 8 = .ok (.aload_n 0, 1) := by decide +kernel
theorem dX12_beginOne_9 : decode cX12_beginOne 9 = .ok (.getfield 200, 3) := by decide +kernel
theorem dX12_beginOne_12 : decode cX12_beginOne 12 = .ok (.sipush 9999, 3) := by decide +kernel
theorem dX12_beginOne_15 : decode cX12_beginOne 15 = .ok (.if_icmp .le 5, 3) := by decide +kernel
theorem dX12_beginOne_18 : decode cX12_beginOne 18 = .ok (.iconst 2, 1) := by decide +kernel
theorem dX12_beginOne_19 : decode cX12_beginOne 19 = .ok (.ireturn, 1) := by decide +kernel
theorem dX12_beginOne_20 : decode cX12_beginOne 20 = .ok (.aload_n 0, 1) := by decide +kernel
theorem dX12_beginOne_21 : decode cX12_beginOne 21 = .ok (.iconst 0, 1) := by decide +kernel
theorem dX12_beginOne_22 : decode cX12_beginOne 22 = .ok (.aload_n 0, 1) := by decide +kernel
theorem dX12_beginOne_23 : decode cX12_beginOne 23 = .ok (.getfield 200, 3) := by decide +kernel
theorem dX12_beginOne_26 : decode cX12_beginOne 26 = .ok (.invokevirtual 235, 3) := by decide +kernel
theorem dX12_beginOne_29 : decode cX12_beginOne 29 = .ok (.aload_n 0, 1) := by decide +kernel
theorem dX12_beginOne_30 : decode cX12_beginOne 30 = .ok (.invokevirtual 249, 3) := by decide +kernel
theorem dX12_beginOne_33 : decode cX12_beginOne 33 = .ok (.aload_n 0, 1) := by decide +kernel
theorem dX12_beginOne_34 : decode cX12_beginOne 34 = .ok (.invokevirtual 252, 3) := by decide +kernel
theorem dX12_beginOne_37 : decode cX12_beginOne 37 = .ok (.iconst 0, 1) := by decide +kernel
theorem dX12_beginOne_38 : decode cX12_beginOne 38 = .ok (.ireturn, 1) := by decide +kernel
theorem dX12_beginOne_39 : decode cX12_beginOne 39 = .ok (.aload_n 0, 1) := by decide +kernel
theorem dX12_beginOne_40 : decode cX12_beginOne 40 = .ok (.invokevirtual 255, 3) := by decide +kernel
theorem dX12_beginOne_43 : decode cX12_beginOne 43 = .ok (.ifCond .lt 35, 3) := by decide +kernel
theorem dX12_beginOne_46 : decode cX12_beginOne 46 = .ok (.aload_n 0, 1) := by decide +kernel
theorem dX12_beginOne_47 : decode cX12_beginOne 47 = .ok (.aload_n 0, 1) := by decide +kernel
theorem dX12_beginOne_48 : decode cX12_beginOne 48 = .ok (.invokevirtual 255, 3) := by decide +kernel
theorem dX12_beginOne_51 : decode cX12_beginOne 51 = .ok (.invokevirtual 259, 3) := by decide +kernel
theorem dX12_beginOne_54 : decode cX12_beginOne 54 = .ok (.ifCond .eq 5, 3) := by decide +kernel
theorem dX12_beginOne_57 : decode cX12_beginOne 57 = .ok (.iconst 5, 1) := by decide +kernel
theorem dX12_beginOne_58 : decode cX12_beginOne 58 = .ok (.ireturn, 1) := by decide +kernel
theorem dX12_beginOne_59 : decode cX12_beginOne 59 = .ok (.aload_n 0, 1) := by decide +kernel
theorem dX12_beginOne_60 : decode cX12_beginOne 60 = .ok (.iconst 1, 1) := by decide +kernel
theorem dX12_beginOne_61 : decode cX12_beginOne 61 = .ok (.aload_n 0, 1) := by decide +kernel
theorem dX12_beginOne_62 : decode cX12_beginOne 62 = .ok (.invokevirtual 255, 3) := by decide +kernel
theorem dX12_beginOne_65 : decode cX12_beginOne 65 = .ok (.invokevirtual 235, 3) := by decide +kernel
theorem dX12_beginOne_68 : decode cX12_beginOne 68 = .ok (.aload_n 0, 1) := by decide +kernel
theorem dX12_beginOne_69 : decode cX12_beginOne 69 = .ok (.invokevirtual 249, 3) := by decide +kernel
theorem dX12_beginOne_72 : decode cX12_beginOne 72 = .ok (.aload_n 0, 1) := by decide +kernel
theorem dX12_beginOne_73 : decode cX12_beginOne 73 = .ok (.invokevirtual 252, 3) := by decide +kernel
theorem dX12_beginOne_76 : decode cX12_beginOne 76 = .ok (.iconst 0, 1) := by decide +kernel
theorem dX12_beginOne_77 : decode cX12_beginOne 77 = .ok (.ireturn, 1) := by decide +kernel
theorem dX12_beginOne_78 : decode cX12_beginOne 78 = .ok (.aload_n 0, 1) := by decide +kernel
theorem dX12_beginOne_79 : decode cX12_beginOne 79 = .ok (.getfield 194, 3) := by decide +kernel
theorem dX12_beginOne_82 : decode cX12_beginOne 82 = .ok (.bipush 40, 2) := by decide +kernel
theorem dX12_beginOne_84 : decode cX12_beginOne 84 = .ok (.if_icmp .ne 8, 3) := by decide +kernel
theorem dX12_beginOne_87 : decode cX12_beginOne 87 = .ok (.bipush 40, 2) := by decide +kernel
theorem dX12_beginOne_89 : decode cX12_beginOne 89 = .ok (.goto 17, 3) := by decide +kernel
theorem dX12_beginOne_92 : decode cX12_beginOne 92 = .ok (.aload_n 0, 1) := by decide +kernel
theorem dX12_beginOne_93 : decode cX12_beginOne 93 = .ok (.getfield 194, 3) := by decide +kernel
theorem dX12_beginOne_96 : decode cX12_beginOne 96 = .ok (.bipush 45, 2) := by decide +kernel
theorem dX12_beginOne_98 : decode cX12_beginOne 98 = .ok (.if_icmp .ne 7, 3) := by decide +kernel
theorem dX12_beginOne_101 : decode cX12_beginOne 101 = .ok (.iconst 2, 1) := by decide +kernel
theorem dX12_beginOne_102 : decode cX12_beginOne 102 = .ok (.goto 4, 3) := by decide +kernel
theorem dX12_beginOne_105 : decode cX12_beginOne 105 = .ok (.iconst 0, 1) := by decide +kernel
theorem dX12_beginOne_106 : decode cX12_beginOne 106 = .ok (.istore_n 1, 1) := by decide +kernel
theorem dX12_beginOne_107 : decode cX12_beginOne 107 = .ok (.iload_n 1, 1) := by decide +kernel
theorem dX12_beginOne_108 : decode cX12_beginOne 108 = .ok (.ifCond .ne 5, 3) := by decide +kernel
theorem dX12_beginOne_111 : decode cX12_beginOne 111 = .ok (.iconst 1, 1) := by decide +kernel
theorem dX12_beginOne_112 : decode cX12_beginOne 112 = .ok (.ireturn, 1) := by decide +kernel
theorem dX12_beginOne_113 : decode cX12_beginOne 113 = .ok (.aload_n 0, 1) := by decide +kernel
theorem dX12_beginOne_114 : decode cX12_beginOne 114 = .ok (.getfield 232, 3) := by decide +kernel
theorem dX12_beginOne_117 : decode cX12_beginOne 117 = .ok (.bipush 8, 2) := by decide +kernel
theorem dX12_beginOne_119 : decode cX12_beginOne 119 = .ok (.if_icmp .ne 5, 3) := by decide +kernel
theorem dX12_beginOne_122 : decode cX12_beginOne 122 = .ok (.iconst 3, 1) := by decide +kernel
theorem dX12_beginOne_123 : decode cX12_beginOne 123 = .ok (.ireturn, 1) := by decide +kernel
theorem dX12_beginOne_124 : decode cX12_beginOne 124 = .ok (.aload_n 0, 1) := by decide +kernel
theorem dX12_beginOne_125 : decode cX12_beginOne 125 = .ok (.dup, 1) := by decide +kernel
theorem dX12_beginOne_126 : decode cX12_beginOne 126 = .ok (.getfield 232, 3) := by decide +kernel
theorem dX12_beginOne_129 : decode cX12_beginOne 129 = .ok (.iconst 1, 1) := by decide +kernel
theorem dX12_beginOne_130 : decode cX12_beginOne 130 = .ok (.iadd, 1) := by decide +kernel
theorem dX12_beginOne_131 : decode cX12_beginOne 131 = .ok (.putfield 232, 3) := by decide +kernel
theorem dX12_beginOne_134 : decode cX12_beginOne 134 = .ok (.aload_n 0, 1) := by decide +kernel
theorem dX12_beginOne_135 : decode cX12_beginOne 135 = .ok (.iload_n 1, 1) := by decide +kernel
theorem dX12_beginOne_136 : decode cX12_beginOne 136 = .ok (.invokevirtual 262, 3) := by decide +kernel
theorem dX12_beginOne_139 : decode cX12_beginOne 139 = .ok (.aload_n 0, 1) := by decide +kernel
theorem dX12_beginOne_140 : decode cX12_beginOne 140 = .ok (.invokevirtual 249, 3) := by decide +kernel
theorem dX12_beginOne_143 : decode cX12_beginOne 143 = .ok (.iconst 0, 1) := by decide +kernel
theorem dX12_beginOne_144 : decode cX12_beginOne 144 = .ok (.ireturn, 1) := by decide +kernel
theorem dX12_hasParen_0 : decode cX12_hasParen 0 = .ok (.iconst 0, 1) := by decide +kernel
theorem dX12_hasParen_1 : decode cX12_hasParen 1 = .ok (.istore_n 1, 1) := by decide +kernel
theorem dX12_hasParen_2 : decode cX12_hasParen 2 = .ok (.iload_n 1, 1) := by decide +kernel
theorem dX12_hasParen_3 : decode cX12_hasParen 3 = .ok (.aload_n 0, 1) := by decide +kernel
theorem dX12_hasParen_4 : decode cX12_hasParen 4 = .ok (.getfield 225, 3) := by decide +kernel
theorem dX12_hasParen_7 : decode cX12_hasParen 7 = .ok (.if_icmp .ge 22, 3) := by decide +kernel
theorem dX12_hasParen_10 : decode cX12_hasParen 10 = .ok (.aload_n 0, 1) := by decide +kernel
theorem dX12_hasParen_11 : decode cX12_hasParen 11 = .ok (.getfield 64, 3) := by decide +kernel
theorem dX12_hasParen_14 : decode cX12_hasParen 14 = .ok (.iload_n 1, 1) := by decide +kernel
theorem dX12_hasParen_15 : decode cX12_hasParen 15 = .ok (.iaload, 1) := by decide +kernel
theorem dX12_hasParen_16 : decode cX12_hasParen 16 = .ok (.bipush 40, 2) := by decide +kernel
theorem dX12_hasParen_18 : decode cX12_hasParen 18 = .ok (.if_icmp .ne 5, 3) := by decide +kernel
theorem dX12_hasParen_21 : decode cX12_hasParen 21 = .ok (.iconst 1, 1) := by decide +kernel
theorem dX12_hasParen_22 : decode cX12_hasParen 22 = .ok (.ireturn, 1) := by decide +kernel
theorem dX12_hasParen_23 : decode cX12_hasParen 23 = .ok (.iinc 1 1, 3) := by decide +kernel
theorem dX12_hasParen_26 : decode cX12_hasParen 26 = .ok (.goto (-24), 3) := by decide +kernel
theorem dX12_hasParen_29 : decode cX12_hasParen 29 = .ok (.iconst 0, 1) := by decide +kernel
theorem dX12_hasParen_30 : decode cX12_hasParen 30 = .ok (.ireturn, 1) := by decide +kernel
theorem dX12_goesOn_0 : decode cX12_goesOn 0 = .ok (.aload_n 0, 1) := by decide +kernel
theorem dX12_goesOn_1 : decode cX12_goesOn 1 = .ok (.getfield 194, 3) := by decide +kernel
theorem dX12_goesOn_4 : decode cX12_goesOn 4 = .ok (.bipush 43, 2) := by decide +kernel
theorem dX12_goesOn_6 : decode cX12_goesOn 6 = .ok (.if_icmp .eq 46, 3) := by decide +kernel
theorem dX12_goesOn_9 : decode cX12_goesOn 9 = .ok (.aload_n 0, 1) := by decide +kernel
theorem dX12_goesOn_10 : decode cX12_goesOn 10 = .ok (.getfield 194, 3) := by decide +kernel
theorem dX12_goesOn_13 : decode cX12_goesOn 13 = .ok (.bipush 45, 2) := by decide +kernel
theorem dX12_goesOn_15 : decode cX12_goesOn 15 = .ok (.if_icmp .eq 37, 3) := by decide +kernel
theorem dX12_goesOn_18 : decode cX12_goesOn 18 = .ok (.aload_n 0, 1) := by decide +kernel
theorem dX12_goesOn_19 : decode cX12_goesOn 19 = .ok (.getfield 194, 3) := by decide +kernel
theorem dX12_goesOn_22 : decode cX12_goesOn 22 = .ok (.bipush 42, 2) := by decide +kernel
theorem dX12_goesOn_24 : decode cX12_goesOn 24 = .ok (.if_icmp .eq 28, 3) := by decide +kernel
theorem dX12_goesOn_27 : decode cX12_goesOn 27 = .ok (.aload_n 0, 1) := by decide +kernel
theorem dX12_goesOn_28 : decode cX12_goesOn 28 = .ok (.getfield 194, 3) := by decide +kernel
theorem dX12_goesOn_31 : decode cX12_goesOn 31 = .ok (.bipush 47, 2) := by decide +kernel
theorem dX12_goesOn_33 : decode cX12_goesOn 33 = .ok (.if_icmp .eq 19, 3) := by decide +kernel
theorem dX12_goesOn_36 : decode cX12_goesOn 36 = .ok (.aload_n 0, 1) := by decide +kernel
theorem dX12_goesOn_37 : decode cX12_goesOn 37 = .ok (.getfield 194, 3) := by decide +kernel
theorem dX12_goesOn_40 : decode cX12_goesOn 40 = .ok (.bipush 41, 2) := by decide +kernel
theorem dX12_goesOn_42 : decode cX12_goesOn 42 = .ok (.if_icmp .ne 14, 3) := by decide +kernel
theorem dX12_goesOn_45 : decode cX12_goesOn 45 = .ok (.aload_n 0, 1) := by decide +kernel
theorem dX12_goesOn_46 : decode cX12_goesOn 46 = .ok (.invokevirtual 265, 3) := by decide +kernel
theorem dX12_goesOn_49 : decode cX12_goesOn 49 = .ok (.ifCond .eq 7, 3) := by decide +kernel
theorem dX12_goesOn_52 : decode cX12_goesOn 52 = .ok (.iconst 1, 1) := by decide +kernel
theorem dX12_goesOn_53 : decode cX12_goesOn 53 = .ok (.goto 4, 3) := by decide +kernel
theorem dX12_goesOn_56 : decode cX12_goesOn 56 = .ok (.iconst 0, 1) := by decide +kernel
theorem dX12_goesOn_57 : decode cX12_goesOn 57 = .ok (.ireturn, 1) := by decide +kernel
theorem dX12_behindOne_0 : decode cX12_behindOne 0 = .ok (.aload_n 0, 1) := by decide +kernel
theorem dX12_behindOne_1 : decode cX12_behindOne 1 = .ok (.getfield 194, 3) := by decide +kernel
theorem dX12_behindOne_4 : decode cX12_behindOne 4 = .ok (.istore_n 1, 1) := by decide +kernel
theorem dX12_behindOne_5 : decode cX12_behindOne 5 = .ok (.iload_n 1, 1) := by decide +kernel
theorem dX12_behindOne_6 : decode cX12_behindOne 6 = .ok (.bipush 43, 2) := by decide +kernel
theorem dX12_behindOne_8 : decode cX12_behindOne 8 = .ok (.if_icmp .eq 9, 3) := by decide +kernel
theorem dX12_behindOne_11 : decode cX12_behindOne 11 = .ok (.iload_n 1, 1) := by decide +kernel
theorem dX12_behindOne_12 : decode cX12_behindOne 12 = .ok (.bipush 45, 2) := by decide +kernel
theorem dX12_behindOne_14 : decode cX12_behindOne 14 = .ok (.if_icmp .ne 31, 3) := by decide +kernel
theorem dX12_behindOne_17 : decode cX12_behindOne 17 = .ok (.aload_n 0, 1) := by decide +kernel
theorem dX12_behindOne_18 : decode cX12_behindOne 18 = .ok (.iconst 3, 1) := by decide +kernel
theorem dX12_behindOne_19 : decode cX12_behindOne 19 = .ok (.invokevirtual 269, 3) := by decide +kernel
theorem dX12_behindOne_22 : decode cX12_behindOne 22 = .ok (.aload_n 0, 1) := by decide +kernel
theorem dX12_behindOne_23 : decode cX12_behindOne 23 = .ok (.iload_n 1, 1) := by decide +kernel
theorem dX12_behindOne_24 : decode cX12_behindOne 24 = .ok (.bipush 43, 2) := by decide +kernel
theorem dX12_behindOne_26 : decode cX12_behindOne 26 = .ok (.if_icmp .ne 7, 3) := by decide +kernel
theorem dX12_behindOne_29 : decode cX12_behindOne 29 = .ok (.iconst 3, 1) := by decide +kernel
theorem dX12_behindOne_30 : decode cX12_behindOne 30 = .ok (.goto 4, 3) := by decide +kernel
theorem dX12_behindOne_33 : decode cX12_behindOne 33 = .ok (.iconst 4, 1) := by decide +kernel
theorem dX12_behindOne_34 : decode cX12_behindOne 34 = .ok (.invokevirtual 262, 3) := by decide +kernel
theorem dX12_behindOne_37 : decode cX12_behindOne 37 = .ok (.aload_n 0, 1) := by decide +kernel
theorem dX12_behindOne_38 : decode cX12_behindOne 38 = .ok (.iconst 0, 1) := by decide +kernel
theorem dX12_behindOne_39 : decode cX12_behindOne 39 = .ok (.putfield 228, 3) := by decide +kernel
theorem dX12_behindOne_42 : decode cX12_behindOne 42 = .ok (.goto 73, 3) := by decide +kernel
theorem dX12_behindOne_45 : decode cX12_behindOne 45 = .ok (.iload_n 1, 1) := by decide +kernel
theorem dX12_behindOne_46 : decode cX12_behindOne 46 = .ok (.bipush 42, 2) := by decide +kernel
theorem dX12_behindOne_48 : decode cX12_behindOne 48 = .ok (.if_icmp .eq 9, 3) := by decide +kernel
theorem dX12_behindOne_51 : decode cX12_behindOne 51 = .ok (.iload_n 1, 1) := by decide +kernel
theorem dX12_behindOne_52 : decode cX12_behindOne 52 = .ok (.bipush 47, 2) := by decide +kernel
theorem dX12_behindOne_54 : decode cX12_behindOne 54 = .ok (.if_icmp .ne 32, 3) := by decide +kernel
theorem dX12_behindOne_57 : decode cX12_behindOne 57 = .ok (.aload_n 0, 1) := by decide +kernel
theorem dX12_behindOne_58 : decode cX12_behindOne 58 = .ok (.iconst 5, 1) := by decide +kernel
theorem dX12_behindOne_59 : decode cX12_behindOne 59 = .ok (.invokevirtual 269, 3) := by decide +kernel
theorem dX12_behindOne_62 : decode cX12_behindOne 62 = .ok (.aload_n 0, 1) := by decide +kernel
theorem dX12_behindOne_63 : decode cX12_behindOne 63 = .ok (.iload_n 1, 1) := by decide +kernel
theorem dX12_behindOne_64 : decode cX12_behindOne 64 = .ok (.bipush 42, 2) := by decide +kernel
theorem dX12_behindOne_66 : decode cX12_behindOne 66 = .ok (.if_icmp .ne 7, 3) := by decide +kernel
theorem dX12_behindOne_69 : decode cX12_behindOne 69 = .ok (.iconst 5, 1) := by decide +kernel
theorem dX12_behindOne_70 : decode cX12_behindOne 70 = .ok (.goto 5, 3) := by decide +kernel
theorem dX12_behindOne_73 : decode cX12_behindOne 73 = .ok (.bipush 6, 2) := by decide +kernel
theorem dX12_behindOne_75 : decode cX12_behindOne 75 = .ok (.invokevirtual 262, 3) := by decide +kernel
theorem dX12_behindOne_78 : decode cX12_behindOne 78 = .ok (.aload_n 0, 1) := by decide +kernel
theorem dX12_behindOne_79 : decode cX12_behindOne 79 = .ok (.iconst 0, 1) := by decide +kernel
theorem dX12_behindOne_80 : decode cX12_behindOne 80 = .ok (.putfield 228, 3) := by decide +kernel
theorem dX12_behindOne_83 : decode cX12_behindOne 83 = .ok (.goto 32, 3) := by decide +kernel
theorem dX12_behindOne_86 : decode cX12_behindOne 86 = .ok (.aload_n 0, 1) := by decide +kernel
theorem dX12_behindOne_87 : decode cX12_behindOne 87 = .ok (.iconst 3, 1) := by decide +kernel
theorem dX12_behindOne_88 : decode cX12_behindOne 88 = .ok (.invokevirtual 269, 3) := by decide +kernel
theorem dX12_behindOne_91 : decode cX12_behindOne 91 = .ok (.aload_n 0, 1) := by decide +kernel
theorem dX12_behindOne_92 : decode cX12_behindOne 92 = .ok (.dup, 1) := by decide +kernel
theorem dX12_behindOne_93 : decode cX12_behindOne 93 = .ok (.getfield 225, 3) := by decide +kernel
theorem dX12_behindOne_96 : decode cX12_behindOne 96 = .ok (.iconst 1, 1) := by decide +kernel
theorem dX12_behindOne_97 : decode cX12_behindOne 97 = .ok (.isub, 1) := by decide +kernel
theorem dX12_behindOne_98 : decode cX12_behindOne 98 = .ok (.putfield 225, 3) := by decide +kernel
theorem dX12_behindOne_101 : decode cX12_behindOne 101 = .ok (.aload_n 0, 1) := by decide +kernel
theorem dX12_behindOne_102 : decode cX12_behindOne 102 = .ok (.dup, 1) := by decide +kernel
theorem dX12_behindOne_103 : decode cX12_behindOne 103 = .ok (.getfield 232, 3) := by decide +kernel
theorem dX12_behindOne_106 : decode cX12_behindOne 106 = .ok (.iconst 1, 1) := by decide +kernel
theorem dX12_behindOne_107 : decode cX12_behindOne 107 = .ok (.isub, 1) := by decide +kernel
theorem dX12_behindOne_108 : decode cX12_behindOne 108 = .ok (.putfield 232, 3) := by decide +kernel
theorem dX12_behindOne_111 : decode cX12_behindOne 111 = .ok (.aload_n 0, 1) := by decide +kernel
theorem dX12_behindOne_112 : decode cX12_behindOne 112 = .ok (.invokevirtual 252, 3) := by decide +kernel
theorem dX12_behindOne_115 : decode cX12_behindOne 115 = .ok (.aload_n 0, 1) := by decide +kernel
theorem dX12_behindOne_116 : decode cX12_behindOne 116 = .ok (.invokevirtual 249, 3) := by decide +kernel
theorem dX12_behindOne_119 : decode cX12_behindOne 119 = .ok (.iconst 0, 1) := by decide +kernel
theorem dX12_behindOne_120 : decode cX12_behindOne 120 = .ok (.ireturn, 1) := by decide +kernel
theorem dX12_summed_0 : decode cX12_summed 0 = .ok (.aload_n 0, 1) := by decide +kernel
theorem dX12_summed_1 : decode cX12_summed 1 = .ok (.iconst 0, 1) := by decide +kernel
theorem dX12_summed_2 : decode cX12_summed 2 = .ok (.putfield 225, 3) := by decide +kernel
theorem dX12_summed_5 : decode cX12_summed 5 = .ok (.aload_n 0, 1) := by decide +kernel
theorem dX12_summed_6 : decode cX12_summed 6 = .ok (.iconst 0, 1) := by decide +kernel
theorem dX12_summed_7 : decode cX12_summed 7 = .ok (.putfield 228, 3) := by decide +kernel
theorem dX12_summed_10 : decode cX12_summed 10 = .ok (.aload_n 0, 1) := by decide +kernel
theorem dX12_summed_11 : decode cX12_summed 11 = .ok (.getfield 228, 3) := by decide +kernel
theorem dX12_summed_14 : decode cX12_summed 14 = .ok (.ifCond .eq 10, 3) := by decide +kernel
theorem dX12_summed_17 : decode cX12_summed 17 = .ok (.aload_n 0, 1) := by decide +kernel
theorem dX12_summed_18 : decode cX12_summed 18 = .ok (.invokevirtual 272, 3) := by decide +kernel
theorem dX12_summed_21 : decode cX12_summed 21 = .ok (.ifCond .eq 31, 3) := by decide +kernel
theorem dX12_summed_24 : decode cX12_summed 24 = .ok (.aload_n 0, 1) := by decide +kernel
theorem dX12_summed_25 : decode cX12_summed 25 = .ok (.getfield 228, 3) := by decide +kernel
theorem dX12_summed_28 : decode cX12_summed 28 = .ok (.ifCond .eq 10, 3) := by decide +kernel
theorem dX12_summed_31 : decode cX12_summed 31 = .ok (.aload_n 0, 1) := by decide +kernel
theorem dX12_summed_32 : decode cX12_summed 32 = .ok (.invokevirtual 275, 3) := by decide +kernel
theorem dX12_summed_35 : decode cX12_summed 35 = .ok (.goto 7, 3) := by decide +kernel
theorem dX12_summed_38 : decode cX12_summed 38 = .ok (.aload_n 0, 1) := by decide +kernel
theorem dX12_summed_39 : decode cX12_summed 39 = .ok (.invokevirtual 278, 3) := by decide +kernel
theorem dX12_summed_42 : decode cX12_summed 42 = .ok (.istore_n 1, 1) := by decide +kernel
theorem dX12_summed_43 : decode cX12_summed 43 = .ok (.iload_n 1, 1) := by decide +kernel
theorem dX12_summed_44 : decode cX12_summed 44 = .ok (.ifCond .eq 5, 3) := by decide +kernel
theorem dX12_summed_47 : decode cX12_summed 47 = .ok (.iload_n 1, 1) := by decide +kernel
theorem dX12_summed_48 : decode cX12_summed 48 = .ok (.ireturn, 1) := by decide +kernel
theorem dX12_summed_49 : decode cX12_summed 49 = .ok (.goto (-39), 3) := by decide +kernel
theorem dX12_summed_52 : decode cX12_summed 52 = .ok (.aload_n 0, 1) := by decide +kernel
theorem dX12_summed_53 : decode cX12_summed 53 = .ok (.iconst 3, 1) := by decide +kernel
theorem dX12_summed_54 : decode cX12_summed 54 = .ok (.invokevirtual 269, 3) := by decide +kernel
theorem dX12_summed_57 : decode cX12_summed 57 = .ok (.aload_n 0, 1) := by decide +kernel
theorem dX12_summed_58 : decode cX12_summed 58 = .ok (.getfield 225, 3) := by decide +kernel
theorem dX12_summed_61 : decode cX12_summed 61 = .ok (.ifCond .le 7, 3) := by decide +kernel
theorem dX12_summed_64 : decode cX12_summed 64 = .ok (.iconst 1, 1) := by decide +kernel
theorem dX12_summed_65 : decode cX12_summed 65 = .ok (.goto 4, 3) := by decide +kernel
theorem dX12_summed_68 : decode cX12_summed 68 = .ok (.iconst 0, 1) := by decide +kernel
theorem dX12_summed_69 : decode cX12_summed 69 = .ok (.ireturn, 1) := by decide +kernel
theorem dX12_compareOf_0 : decode cX12_compareOf 0 = .ok (.aload_n 0, 1) := by decide +kernel
theorem dX12_compareOf_1 : decode cX12_compareOf 1 = .ok (.getfield 194, 3) := by decide +kernel
theorem dX12_compareOf_4 : decode cX12_compareOf 4 = .ok (.bipush 60, 2) := by decide +kernel
theorem dX12_compareOf_6 : decode cX12_compareOf 6 = .ok (.if_icmp .ne 8, 3) := by decide +kernel
theorem dX12_compareOf_9 : decode cX12_compareOf 9 = .ok (.bipush 10, 2) := by decide +kernel
theorem dX12_compareOf_11 : decode cX12_compareOf 11 = .ok (.goto 72, 3) := by decide +kernel
theorem dX12_compareOf_14 : decode cX12_compareOf 14 = .ok (.aload_n 0, 1) := by decide +kernel
theorem dX12_compareOf_15 : decode cX12_compareOf 15 = .ok (.getfield 194, 3) := by decide +kernel
theorem dX12_compareOf_18 : decode cX12_compareOf 18 = .ok (.iconst 4, 1) := by decide +kernel
theorem dX12_compareOf_19 : decode cX12_compareOf 19 = .ok (.if_icmp .ne 8, 3) := by decide +kernel
theorem dX12_compareOf_22 : decode cX12_compareOf 22 = .ok (.bipush 11, 2) := by decide +kernel
theorem dX12_compareOf_24 : decode cX12_compareOf 24 = .ok (.goto 59, 3) := by decide +kernel
theorem dX12_compareOf_27 : decode cX12_compareOf 27 = .ok (.aload_n 0, 1) := by decide +kernel
theorem dX12_compareOf_28 : decode cX12_compareOf 28 = .ok (.getfield 194, 3) := by decide +kernel
theorem dX12_compareOf_31 : decode cX12_compareOf 31 = .ok (.bipush 62, 2) := by decide +kernel
theorem dX12_compareOf_33 : decode cX12_compareOf 33 = .ok (.if_icmp .ne 8, 3) := by decide +kernel
theorem dX12_compareOf_36 : decode cX12_compareOf 36 = .ok (.bipush 12, 2) := by decide +kernel
theorem dX12_compareOf_38 : decode cX12_compareOf 38 = .ok (.goto 45, 3) := by decide +kernel
theorem dX12_compareOf_41 : decode cX12_compareOf 41 = .ok (.aload_n 0, 1) := by decide +kernel
theorem dX12_compareOf_42 : decode cX12_compareOf 42 = .ok (.getfield 194, 3) := by decide +kernel
theorem dX12_compareOf_45 : decode cX12_compareOf 45 = .ok (.iconst 5, 1) := by decide +kernel
theorem dX12_compareOf_46 : decode cX12_compareOf 46 = .ok (.if_icmp .ne 8, 3) := by decide +kernel
theorem dX12_compareOf_49 : decode cX12_compareOf 49 = .ok (.bipush 13, 2) := by decide +kernel
theorem dX12_compareOf_51 : decode cX12_compareOf 51 = .ok (.goto 32, 3) := by decide +kernel
theorem dX12_compareOf_54 : decode cX12_compareOf 54 = .ok (.aload_n 0, 1) := by decide +kernel
theorem dX12_compareOf_55 : decode cX12_compareOf 55 = .ok (.getfield 194, 3) := by decide +kernel
theorem dX12_compareOf_58 : decode cX12_compareOf 58 = .ok (.bipush 61, 2) := by decide +kernel
theorem dX12_compareOf_60 : decode cX12_compareOf 60 = .ok (.if_icmp .ne 8, 3) := by decide +kernel
theorem dX12_compareOf_63 : decode cX12_compareOf 63 = .ok (.bipush 14, 2) := by decide +kernel
theorem dX12_compareOf_65 : decode cX12_compareOf 65 = .ok (.goto 18, 3) := by decide +kernel
theorem dX12_compareOf_68 : decode cX12_compareOf 68 = .ok (.aload_n 0, 1) := by decide +kernel
theorem dX12_compareOf_69 : decode cX12_compareOf 69 = .ok (.getfield 194, 3) := by decide +kernel
theorem dX12_compareOf_72 : decode cX12_compareOf 72 = .ok (.bipush 35, 2) := by decide +kernel
theorem dX12_compareOf_74 : decode cX12_compareOf 74 = .ok (.if_icmp .ne 8, 3) := by decide +kernel
theorem dX12_compareOf_77 : decode cX12_compareOf 77 = .ok (.bipush 15, 2) := by decide +kernel
theorem dX12_compareOf_79 : decode cX12_compareOf 79 = .ok (.goto 4, 3) := by decide +kernel
theorem dX12_compareOf_82 : decode cX12_compareOf 82 = .ok (.iconst (-1), 1) := by decide +kernel
theorem dX12_compareOf_83 : decode cX12_compareOf 83 = .ok (.ireturn, 1) := by decide +kernel
theorem dX12_ask_0 : decode cX12_ask 0 = .ok (.iconst 0, 1) := by decide +kernel
theorem dX12_ask_1 : decode cX12_ask 1 = .ok (.istore_n 1, 1) := by decide +kernel
theorem dX12_ask_2 : decode cX12_ask 2 = .ok (.aload_n 0, 1) := by decide +kernel
theorem dX12_ask_3 : decode cX12_ask 3 = .ok (.bipush 110, 2) := by decide +kernel
theorem dX12_ask_5 : decode cX12_ask 5 = .ok (.bipush 111, 2) := by decide +kernel
theorem dX12_ask_7 : decode cX12_ask 7 = .ok (.bipush 116, 2) := by decide +kernel
theorem dX12_ask_9 : decode cX12_ask 9 = .ok (.invokestatic 211, 3) := by decide +kernel
theorem dX12_ask_12 : decode cX12_ask 12 = .ok (.invokevirtual 281, 3) := by decide +kernel
theorem dX12_ask_15 : decode cX12_ask 15 = .ok (.ifCond .eq 34, 3) := by decide +kernel
theorem dX12_ask_18 : decode cX12_ask 18 = .ok (.aload_n 0, 1) := by decide +kernel
theorem dX12_ask_19 : decode cX12_ask 19 = .ok (.getfield 232, 3) := by decide +kernel
theorem dX12_ask_22 : decode cX12_ask 22 = .ok (.bipush 8, 2) := by decide +kernel
theorem dX12_ask_24 : decode cX12_ask 24 = .ok (.if_icmp .ne 5, 3) := by decide +kernel
theorem dX12_ask_27 : decode cX12_ask 27 = .ok (.iconst 3, 1) := by decide +kernel
theorem dX12_ask_28 : decode cX12_ask 28 = .ok (.ireturn, 1) := by decide +kernel
theorem dX12_ask_29 : decode cX12_ask 29 = .ok (.aload_n 0, 1) := by decide +kernel
theorem dX12_ask_30 : decode cX12_ask 30 = .ok (.dup, 1) := by decide +kernel
theorem dX12_ask_31 : decode cX12_ask 31 = .ok (.getfield 232, 3) := by decide +kernel
theorem dX12_ask_34 : decode cX12_ask 34 = .ok (.iconst 1, 1) := by decide +kernel
theorem dX12_ask_35 : decode cX12_ask 35 = .ok (.iadd, 1) := by decide +kernel
theorem dX12_ask_36 : decode cX12_ask 36 = .ok (.putfield 232, 3) := by decide +kernel
theorem dX12_ask_39 : decode cX12_ask 39 = .ok (.iinc 1 1, 3) := by decide +kernel
theorem dX12_ask_42 : decode cX12_ask 42 = .ok (.aload_n 0, 1) := by decide +kernel
theorem dX12_ask_43 : decode cX12_ask 43 = .ok (.invokevirtual 249, 3) := by decide +kernel
theorem dX12_ask_46 : decode cX12_ask 46 = .ok (.goto (-44), 3) := by decide +kernel
theorem dX12_ask_49 : decode cX12_ask 49 = .ok (.aload_n 0, 1) := by decide +kernel
theorem dX12_ask_50 : decode cX12_ask 50 = .ok (.invokevirtual 285, 3) := by decide +kernel
theorem dX12_ask_53 : decode cX12_ask 53 = .ok (.istore_n 2, 1) := by decide +kernel
theorem dX12_ask_54 : decode cX12_ask 54 = .ok (.iload_n 2, 1) := by decide +kernel
theorem dX12_ask_55 : decode cX12_ask 55 = .ok (.ifCond .eq 5, 3) := by decide +kernel
theorem dX12_ask_58 : decode cX12_ask 58 = .ok (.iload_n 2, 1) := by decide +kernel
theorem dX12_ask_59 : decode cX12_ask 59 = .ok (.ireturn, 1) := by decide +kernel
theorem dX12_ask_60 : decode cX12_ask 60 = .ok (.aload_n 0, 1) := by decide +kernel
theorem dX12_ask_61 : decode cX12_ask 61 = .ok (.invokevirtual 288, 3) := by decide +kernel
theorem dX12_ask_64 : decode cX12_ask 64 = .ok (.istore_n 3, 1) := by decide +kernel
theorem dX12_ask_65 : decode cX12_ask 65 = .ok (.iload_n 3, 1) := by decide +kernel
theorem dX12_ask_66 : decode cX12_ask 66 = .ok (.ifCond .ge 5, 3) := by decide +kernel
theorem dX12_ask_69 : decode cX12_ask 69 = .ok (.iconst 1, 1) := by decide +kernel
theorem dX12_ask_70 : decode cX12_ask 70 = .ok (.ireturn, 1) := by decide +kernel
theorem dX12_ask_71 : decode cX12_ask 71 = .ok (.aload_n 0, 1) := by decide +kernel
theorem dX12_ask_72 : decode cX12_ask 72 = .ok (.invokevirtual 249, 3) := by decide +kernel
theorem dX12_ask_75 : decode cX12_ask 75 = .ok (.aload_n 0, 1) := by decide +kernel
theorem dX12_ask_76 : decode cX12_ask 76 = .ok (.invokevirtual 285, 3) := by decide +kernel
theorem dX12_ask_79 : decode cX12_ask 79 = .ok (.istore_n 2, 1) := by decide +kernel
theorem dX12_ask_80 : decode cX12_ask 80 = .ok (.iload_n 2, 1) := by decide +kernel
theorem dX12_ask_81 : decode cX12_ask 81 = .ok (.ifCond .eq 5, 3) := by decide +kernel
theorem dX12_ask_84 : decode cX12_ask 84 = .ok (.iload_n 2, 1) := by decide +kernel
theorem dX12_ask_85 : decode cX12_ask 85 = .ok (.ireturn, 1) := by decide +kernel
theorem dX12_ask_86 : decode cX12_ask 86 = .ok (.aload_n 0, 1) := by decide +kernel
theorem dX12_ask_87 : decode cX12_ask 87 = .ok (.iload_n 3, 1) := by decide +kernel
theorem dX12_ask_88 : decode cX12_ask 88 = .ok (.iconst 0, 1) := by decide +kernel
theorem dX12_ask_89 : decode cX12_ask 89 = .ok (.invokevirtual 235, 3) := by decide +kernel
theorem dX12_ask_92 : decode cX12_ask 92 = .ok (.aload_n 0, 1) := by decide +kernel
theorem dX12_ask_93 : decode cX12_ask 93 = .ok (.dup, 1) := by decide +kernel
theorem dX12_ask_94 : decode cX12_ask 94 = .ok (.getfield 232, 3) := by decide +kernel
theorem dX12_ask_97 : decode cX12_ask 97 = .ok (.iload_n 1, 1) := by decide +kernel
theorem dX12_ask_98 : decode cX12_ask 98 = .ok (.isub, 1) := by decide +kernel
theorem dX12_ask_99 : decode cX12_ask 99 = .ok (.putfield 232, 3) := by decide +kernel
theorem dX12_ask_102 : decode cX12_ask 102 = .ok (.iconst 0, 1) := by decide +kernel
theorem dX12_ask_103 : decode cX12_ask 103 = .ok (.istore 4, 2) := by decide +kernel
theorem dX12_ask_105 : decode cX12_ask 105 = .ok (.iload 4, 2) := by decide +kernel
theorem dX12_ask_107 : decode cX12_ask 107 = .ok (.iload_n 1, 1) := by decide +kernel
theorem dX12_ask_108 : decode cX12_ask 108 = .ok (.if_icmp .ge 16, 3) := by decide +kernel
theorem dX12_ask_111 : decode cX12_ask 111 = .ok (.aload_n 0, 1) := by decide +kernel
theorem dX12_ask_112 : decode cX12_ask 112 = .ok (.bipush 20, 2) := by decide +kernel
theorem dX12_ask_114 : decode cX12_ask 114 = .ok (.iconst 0, 1) := by decide +kernel
theorem dX12_ask_115 : decode cX12_ask 115 = .ok (.invokevirtual 235, 3) := by decide +kernel
theorem dX12_ask_118 : decode cX12_ask 118 = .ok (.iinc 4 1, 3) := by decide +kernel
theorem dX12_ask_121 : decode cX12_ask 121 = .ok (.goto (-16), 3) := by decide +kernel
theorem dX12_ask_124 : decode cX12_ask 124 = .ok (.iconst 0, 1) := by decide +kernel
theorem dX12_ask_125 : decode cX12_ask 125 = .ok (.ireturn, 1) := by decide +kernel
theorem dX12_either_0 : decode cX12_either 0 = .ok (.iconst 0, 1) := by decide +kernel
theorem dX12_either_1 : decode cX12_either 1 = .ok (.istore_n 1, 1) := by decide +kernel
theorem dX12_either_2 : decode cX12_either 2 = .ok (.iconst 0, 1) := by decide +kernel
theorem dX12_either_3 : decode cX12_either 3 = .ok (.istore_n 2, 1) := by decide +kernel
theorem dX12_either_4 : decode cX12_either 4 = .ok (.iconst 1, 1) := by decide +kernel
theorem dX12_either_5 : decode cX12_either 5 = .ok (.istore_n 3, 1) := by decide +kernel
theorem dX12_either_6 : decode cX12_either 6 = .ok (.iload_n 3, 1) := by decide +kernel
theorem dX12_either_7 : decode cX12_either 7 = .ok (.ifCond .eq 112, 3) := by decide +kernel
theorem dX12_either_10 : decode cX12_either 10 = .ok (.aload_n 0, 1) := by decide +kernel
theorem dX12_either_11 : decode cX12_either 11 = .ok (.invokevirtual 291, 3) := by decide +kernel
theorem dX12_either_14 : decode cX12_either 14 = .ok (.istore 4, 2) := by decide +kernel
theorem dX12_either_16 : decode cX12_either 16 = .ok (.iload 4, 2) := by decide +kernel
theorem dX12_either_18 : decode cX12_either 18 = .ok (.ifCond .eq 6, 3) := by decide +kernel
theorem dX12_either_21 : decode cX12_either 21 = .ok (.iload 4, 2) := by decide +kernel
theorem dX12_either_23 : decode cX12_either 23 = .ok (.ireturn, 1) := by decide +kernel
theorem dX12_either_24 : decode cX12_either 24 = .ok (.iload_n 1, 1) := by decide +kernel
theorem dX12_either_25 : decode cX12_either 25 = .ok (.ifCond .eq 10, 3) := by decide +kernel
theorem dX12_either_28 : decode cX12_either 28 = .ok (.aload_n 0, 1) := by decide +kernel
theorem dX12_either_29 : decode cX12_either 29 = .ok (.bipush 21, 2) := by decide +kernel
theorem dX12_either_31 : decode cX12_either 31 = .ok (.iconst 0, 1) := by decide +kernel
theorem dX12_either_32 : decode cX12_either 32 = .ok (.invokevirtual 235, 3) := by decide +kernel
theorem dX12_either_35 : decode cX12_either 35 = .ok (.aload_n 0, 1) := by decide +kernel
theorem dX12_either_36 : decode cX12_either 36 = .ok (.bipush 97, 2) := by decide +kernel
theorem dX12_either_38 : decode cX12_either 38 = .ok (.bipush 110, 2) := by decide +kernel
theorem dX12_either_40 : decode cX12_either 40 = .ok (.bipush 100, 2) := by decide +kernel
theorem dX12_either_42 : decode cX12_either 42 = .ok (.invokestatic 211, 3) := by decide +kernel
theorem dX12_either_45 : decode cX12_either 45 = .ok (.invokevirtual 281, 3) := by decide +kernel
theorem dX12_either_48 : decode cX12_either 48 = .ok (.istore_n 1, 1) := by decide +kernel
theorem dX12_either_49 : decode cX12_either 49 = .ok (.aload_n 0, 1) := by decide +kernel
theorem dX12_either_50 : decode cX12_either 50 = .ok (.getfield 194, 3) := by decide +kernel
theorem dX12_either_53 : decode cX12_either 53 = .ok (.iconst 2, 1) := by decide +kernel
theorem dX12_either_54 : decode cX12_either 54 = .ok (.if_icmp .ne 18, 3) := by decide +kernel
theorem dX12_either_57 : decode cX12_either 57 = .ok (.aload_n 0, 1) := by decide +kernel
theorem dX12_either_58 : decode cX12_either 58 = .ok (.getfield 207, 3) := by decide +kernel
theorem dX12_either_61 : decode cX12_either 61 = .ok (.ldc2_w 294, 3) := by decide +kernel
theorem dX12_either_64 : decode cX12_either 64 = .ok (.lcmp, 1) := by decide +kernel
theorem dX12_either_65 : decode cX12_either 65 = .ok (.ifCond .ne 7, 3) := by decide +kernel
theorem dX12_either_68 : decode cX12_either 68 = .ok (.iconst 1, 1) := by decide +kernel
theorem dX12_either_69 : decode cX12_either 69 = .ok (.goto 4, 3) := by decide +kernel
theorem dX12_either_72 : decode cX12_either 72 = .ok (.iconst 0, 1) := by decide +kernel
theorem dX12_either_73 : decode cX12_either 73 = .ok (.istore 5, 2) := by decide +kernel
theorem dX12_either_75 : decode cX12_either 75 = .ok (.iload_n 1, 1) := by decide +kernel
theorem dX12_either_76 : decode cX12_either 76 = .ok (.ifCond .ne 17, 3) := by decide +kernel
theorem dX12_either_79 : decode cX12_either 79 = .ok (.iload_n 2, 1) := by decide +kernel
theorem dX12_either_80 : decode cX12_either 80 = .ok (.ifCond .eq 10, 3) := by decide +kernel
theorem dX12_either_83 : decode cX12_either 83 = .ok (.aload_n 0, 1) := by decide +kernel
theorem dX12_either_84 : decode cX12_either 84 = .ok (.bipush 22, 2) := by decide +kernel
theorem dX12_either_86 : decode cX12_either 86 = .ok (.iconst 0, 1) := by decide +kernel
theorem dX12_either_87 : decode cX12_either 87 = .ok (.invokevirtual 235, 3) := by decide +kernel
theorem dX12_either_90 : decode cX12_either 90 = .ok (.iload 5, 2) := by decide +kernel
theorem dX12_either_92 : decode cX12_either 92 = .ok (.istore_n 2, 1) := by decide +kernel
theorem dX12_either_93 : decode cX12_either 93 = .ok (.iload_n 1, 1) := by decide +kernel
theorem dX12_either_94 : decode cX12_either 94 = .ok (.ifCond .ne 8, 3) := by decide +kernel
theorem dX12_either_97 : decode cX12_either 97 = .ok (.iload 5, 2) := by decide +kernel
theorem dX12_either_99 : decode cX12_either 99 = .ok (.ifCond .eq 7, 3) := by decide +kernel
theorem dX12_either_102 : decode cX12_either 102 = .ok (.iconst 1, 1) := by decide +kernel
theorem dX12_either_103 : decode cX12_either 103 = .ok (.goto 4, 3) := by decide +kernel
theorem dX12_either_106 : decode cX12_either 106 = .ok (.iconst 0, 1) := by decide +kernel
theorem dX12_either_107 : decode cX12_either 107 = .ok (.istore_n 3, 1) := by decide +kernel
theorem dX12_either_108 : decode cX12_either 108 = .ok (.iload_n 3, 1) := by decide +kernel
theorem dX12_either_109 : decode cX12_either 109 = .ok (.ifCond .eq 7, 3) := by decide +kernel
theorem dX12_either_112 : decode cX12_either 112 = .ok (.aload_n 0, 1) := by decide +kernel
theorem dX12_either_113 : decode cX12_either 113 = .ok (.invokevirtual 249, 3) := by decide +kernel
theorem dX12_either_116 : decode cX12_either 116 = .ok (.goto (-110), 3) := by decide +kernel
theorem dX12_either_119 : decode cX12_either 119 = .ok (.iconst 0, 1) := by decide +kernel
theorem dX12_either_120 : decode cX12_either 120 = .ok (.ireturn, 1) := by decide +kernel
theorem dX12_sortOf_0 : decode cX12_sortOf 0 = .ok (.aload_n 0, 1) := by decide +kernel
theorem dX12_sortOf_1 : decode cX12_sortOf 1 = .ok (.bipush 115, 2) := by decide +kernel
theorem dX12_sortOf_3 : decode cX12_sortOf 3 = .ok (.bipush 104, 2) := by decide +kernel
theorem dX12_sortOf_5 : decode cX12_sortOf 5 = .ok (.bipush 117, 2) := by decide +kernel
theorem dX12_sortOf_7 : decode cX12_sortOf 7 = .ok (.bipush 116, 2) := by decide +kernel
theorem dX12_sortOf_9 : decode cX12_sortOf 9 = .ok (.invokestatic 242, 3) := by decide +kernel
theorem dX12_sortOf_12 : decode cX12_sortOf 12 = .ok (.invokevirtual 281, 3) := by decide +kernel
theorem dX12_sortOf_15 : decode cX12_sortOf 15 = .ok (.ifCond .eq 5, 3) := by decide +kernel
theorem dX12_sortOf_18 : decode cX12_sortOf 18 = .ok (.iconst 1, 1) := by decide +kernel
theorem dX12_sortOf_19 : decode cX12_sortOf 19 = .ok (.ireturn, 1) := by decide +kernel
theorem dX12_sortOf_20 : decode cX12_sortOf 20 = .ok (.aload_n 0, 1) := by decide +kernel
theorem dX12_sortOf_21 : decode cX12_sortOf 21 = .ok (.bipush 119, 2) := by decide +kernel
theorem dX12_sortOf_23 : decode cX12_sortOf 23 = .ok (.bipush 111, 2) := by decide +kernel
theorem dX12_sortOf_25 : decode cX12_sortOf 25 = .ok (.bipush 114, 2) := by decide +kernel
theorem dX12_sortOf_27 : decode cX12_sortOf 27 = .ok (.bipush 116, 2) := by decide +kernel
theorem dX12_sortOf_29 : decode cX12_sortOf 29 = .ok (.bipush 104, 2) := by decide +kernel
theorem dX12_sortOf_31 : decode cX12_sortOf 31 = .ok (.invokestatic 215, 3) := by decide +kernel
theorem dX12_sortOf_34 : decode cX12_sortOf 34 = .ok (.invokevirtual 281, 3) := by decide +kernel
theorem dX12_sortOf_37 : decode cX12_sortOf 37 = .ok (.ifCond .eq 5, 3) := by decide +kernel
theorem dX12_sortOf_40 : decode cX12_sortOf 40 = .ok (.iconst 2, 1) := by decide +kernel
theorem dX12_sortOf_41 : decode cX12_sortOf 41 = .ok (.ireturn, 1) := by decide +kernel
theorem dX12_sortOf_42 : decode cX12_sortOf 42 = .ok (.aload_n 0, 1) := by decide +kernel
theorem dX12_sortOf_43 : decode cX12_sortOf 43 = .ok (.bipush 119, 2) := by decide +kernel
theorem dX12_sortOf_45 : decode cX12_sortOf 45 = .ok (.bipush 104, 2) := by decide +kernel
theorem dX12_sortOf_47 : decode cX12_sortOf 47 = .ok (.bipush 111, 2) := by decide +kernel
theorem dX12_sortOf_49 : decode cX12_sortOf 49 = .ok (.bipush 115, 2) := by decide +kernel
theorem dX12_sortOf_51 : decode cX12_sortOf 51 = .ok (.bipush 101, 2) := by decide +kernel
theorem dX12_sortOf_53 : decode cX12_sortOf 53 = .ok (.invokestatic 215, 3) := by decide +kernel
theorem dX12_sortOf_56 : decode cX12_sortOf 56 = .ok (.invokevirtual 281, 3) := by decide +kernel
theorem dX12_sortOf_59 : decode cX12_sortOf 59 = .ok (.ifCond .eq 7, 3) := by decide +kernel
theorem dX12_sortOf_62 : decode cX12_sortOf 62 = .ok (.iconst 3, 1) := by decide +kernel
theorem dX12_sortOf_63 : decode cX12_sortOf 63 = .ok (.goto 24, 3) := by decide +kernel
theorem dX12_sortOf_66 : decode cX12_sortOf 66 = .ok (.aload_n 0, 1) := by decide +kernel
theorem dX12_sortOf_67 : decode cX12_sortOf 67 = .ok (.bipush 121, 2) := by decide +kernel
theorem dX12_sortOf_69 : decode cX12_sortOf 69 = .ok (.bipush 101, 2) := by decide +kernel
theorem dX12_sortOf_71 : decode cX12_sortOf 71 = .ok (.bipush 115, 2) := by decide +kernel
theorem dX12_sortOf_73 : decode cX12_sortOf 73 = .ok (.invokestatic 211, 3) := by decide +kernel
theorem dX12_sortOf_76 : decode cX12_sortOf 76 = .ok (.invokevirtual 281, 3) := by decide +kernel
theorem dX12_sortOf_79 : decode cX12_sortOf 79 = .ok (.ifCond .eq 7, 3) := by decide +kernel
theorem dX12_sortOf_82 : decode cX12_sortOf 82 = .ok (.iconst 4, 1) := by decide +kernel
theorem dX12_sortOf_83 : decode cX12_sortOf 83 = .ok (.goto 4, 3) := by decide +kernel
theorem dX12_sortOf_86 : decode cX12_sortOf 86 = .ok (.iconst 0, 1) := by decide +kernel
theorem dX12_sortOf_87 : decode cX12_sortOf 87 = .ok (.ireturn, 1) := by decide +kernel
theorem dX12_clause_0 : decode cX12_clause 0 = .ok (.aload_n 0, 1) := by decide +kernel
theorem dX12_clause_1 : decode cX12_clause 1 = .ok (.aload_n 0, 1) := by decide +kernel
theorem dX12_clause_2 : decode cX12_clause 2 = .ok (.invokevirtual 296, 3) := by decide +kernel
theorem dX12_clause_5 : decode cX12_clause 5 = .ok (.putfield 246, 3) := by decide +kernel
theorem dX12_clause_8 : decode cX12_clause 8 = .ok (.aload_n 0, 1) := by decide +kernel
theorem dX12_clause_9 : decode cX12_clause 9 = .ok (.getfield 246, 3) := by decide +kernel
theorem dX12_clause_12 : decode cX12_clause 12 = .ok (.ifCond .ne 5, 3) := by decide +kernel
theorem dX12_clause_15 : decode cX12_clause 15 = .ok (.iconst 1, 1) := by decide +kernel
theorem dX12_clause_16 : decode cX12_clause 16 = .ok (.ireturn, 1) := by decide +kernel
theorem dX12_clause_17 : decode cX12_clause 17 = .ok (.aload_n 0, 1) := by decide +kernel
theorem dX12_clause_18 : decode cX12_clause 18 = .ok (.getfield 246, 3) := by decide +kernel
theorem dX12_clause_21 : decode cX12_clause 21 = .ok (.iconst 3, 1) := by decide +kernel
theorem dX12_clause_22 : decode cX12_clause 22 = .ok (.if_icmp .eq 20, 3) := by decide +kernel
theorem dX12_clause_25 : decode cX12_clause 25 = .ok (.aload_n 0, 1) := by decide +kernel
theorem dX12_clause_26 : decode cX12_clause 26 = .ok (.getfield 299, 3) := by decide +kernel
theorem dX12_clause_29 : decode cX12_clause 29 = .ok (.aload_n 0, 1) := by decide +kernel
theorem dX12_clause_30 : decode cX12_clause 30 = .ok (.getfield 246, 3) := by decide +kernel
theorem dX12_clause_33 : decode cX12_clause 33 = .ok (.ishr, 1) := by decide +kernel
theorem dX12_clause_34 : decode cX12_clause 34 = .ok (.iconst 1, 1) := by decide +kernel
theorem dX12_clause_35 : decode cX12_clause 35 = .ok (.iand, 1) := by decide +kernel
theorem dX12_clause_36 : decode cX12_clause 36 = .ok (.iconst 1, 1) := by decide +kernel
theorem dX12_clause_37 : decode cX12_clause 37 = .ok (.if_icmp .ne 5, 3) := by decide +kernel
theorem dX12_clause_40 : decode cX12_clause 40 = .ok (.iconst 4, 1) := by decide +kernel
theorem dX12_clause_41 : decode cX12_clause 41 = .ok (.ireturn, 1) := by decide +kernel
theorem dX12_clause_42 : decode cX12_clause 42 = .ok (.aload_n 0, 1) := by decide +kernel
theorem dX12_clause_43 : decode cX12_clause 43 = .ok (.getfield 302, 3) := by decide +kernel
theorem dX12_clause_46 : decode cX12_clause 46 = .ok (.bipush 20, 2) := by decide +kernel
theorem dX12_clause_48 : decode cX12_clause 48 = .ok (.if_icmp .ne 6, 3) := by decide +kernel
theorem dX12_clause_51 : decode cX12_clause 51 = .ok (.bipush 6, 2) := by decide +kernel
theorem dX12_clause_53 : decode cX12_clause 53 = .ok (.ireturn, 1) := by decide +kernel
theorem dX12_clause_54 : decode cX12_clause 54 = .ok (.aload_n 0, 1) := by decide +kernel
theorem dX12_clause_55 : decode cX12_clause 55 = .ok (.dup, 1) := by decide +kernel
theorem dX12_clause_56 : decode cX12_clause 56 = .ok (.getfield 299, 3) := by decide +kernel
theorem dX12_clause_59 : decode cX12_clause 59 = .ok (.iconst 1, 1) := by decide +kernel
theorem dX12_clause_60 : decode cX12_clause 60 = .ok (.aload_n 0, 1) := by decide +kernel
theorem dX12_clause_61 : decode cX12_clause 61 = .ok (.getfield 246, 3) := by decide +kernel
theorem dX12_clause_64 : decode cX12_clause 64 = .ok (.ishl, 1) := by decide +kernel
theorem dX12_clause_65 : decode cX12_clause 65 = .ok (.ior, 1) := by decide +kernel
theorem dX12_clause_66 : decode cX12_clause 66 = .ok (.putfield 299, 3) := by decide +kernel
theorem dX12_clause_69 : decode cX12_clause 69 = .ok (.aload_n 0, 1) := by decide +kernel
theorem dX12_clause_70 : decode cX12_clause 70 = .ok (.getfield 219, 3) := by decide +kernel
theorem dX12_clause_73 : decode cX12_clause 73 = .ok (.iconst 1, 1) := by decide +kernel
theorem dX12_clause_74 : decode cX12_clause 74 = .ok (.iadd, 1) := by decide +kernel
theorem dX12_clause_75 : decode cX12_clause 75 = .ok (.bipush 6, 2) := by decide +kernel
theorem dX12_clause_77 : decode cX12_clause 77 = .ok (.aload_n 0, 1) := by decide +kernel
theorem dX12_clause_78 : decode cX12_clause 78 = .ok (.getfield 302, 3) := by decide +kernel
theorem dX12_clause_81 : decode cX12_clause 81 = .ok (.imul, 1) := by decide +kernel
theorem dX12_clause_82 : decode cX12_clause 82 = .ok (.iadd, 1) := by decide +kernel
theorem dX12_clause_83 : decode cX12_clause 83 = .ok (.istore_n 1, 1) := by decide +kernel
theorem dX12_clause_84 : decode cX12_clause 84 = .ok (.aload_n 0, 1) := by decide +kernel
theorem dX12_clause_85 : decode cX12_clause 85 = .ok (.getfield 16, 3) := by decide +kernel
theorem dX12_clause_88 : decode cX12_clause 88 = .ok (.iload_n 1, 1) := by decide +kernel
theorem dX12_clause_89 : decode cX12_clause 89 = .ok (.aload_n 0, 1) := by decide +kernel
theorem dX12_clause_90 : decode cX12_clause 90 = .ok (.getfield 246, 3) := by decide +kernel
theorem dX12_clause_93 : decode cX12_clause 93 = .ok (.iastore, 1) := by decide +kernel
theorem dX12_clause_94 : decode cX12_clause 94 = .ok (.aload_n 0, 1) := by decide +kernel
theorem dX12_clause_95 : decode cX12_clause 95 = .ok (.getfield 16, 3) := by decide +kernel
theorem dX12_clause_98 : decode cX12_clause 98 = .ok (.iload_n 1, 1) := by decide +kernel
theorem dX12_clause_99 : decode cX12_clause 99 = .ok (.iconst 4, 1) := by decide +kernel
theorem dX12_clause_100 : decode cX12_clause 100 = .ok (.iadd, 1) := by decide +kernel
theorem dX12_clause_101 : decode cX12_clause 101 = .ok (.aload_n 0, 1) := by decide +kernel
theorem dX12_clause_102 : decode cX12_clause 102 = .ok (.getfield 222, 3) := by decide +kernel
theorem dX12_clause_105 : decode cX12_clause 105 = .ok (.iastore, 1) := by decide +kernel
theorem dX12_clause_106 : decode cX12_clause 106 = .ok (.aload_n 0, 1) := by decide +kernel
theorem dX12_clause_107 : decode cX12_clause 107 = .ok (.invokevirtual 249, 3) := by decide +kernel
theorem dX12_clause_110 : decode cX12_clause 110 = .ok (.aload_n 0, 1) := by decide +kernel
theorem dX12_clause_111 : decode cX12_clause 111 = .ok (.getfield 246, 3) := by decide +kernel
theorem dX12_clause_114 : decode cX12_clause 114 = .ok (.iconst 3, 1) := by decide +kernel
theorem dX12_clause_115 : decode cX12_clause 115 = .ok (.if_icmp .ne 44, 3) := by decide +kernel
theorem dX12_clause_118 : decode cX12_clause 118 = .ok (.aload_n 0, 1) := by decide +kernel
theorem dX12_clause_119 : decode cX12_clause 119 = .ok (.getfield 194, 3) := by decide +kernel
theorem dX12_clause_122 : decode cX12_clause 122 = .ok (.iconst 1, 1) := by decide +kernel
theorem dX12_clause_123 : decode cX12_clause 123 = .ok (.if_icmp .eq 5, 3) := by decide +kernel
theorem dX12_clause_126 : decode cX12_clause 126 = .ok (.iconst 1, 1) := by decide +kernel
theorem dX12_clause_127 : decode cX12_clause 127 = .ok (.ireturn, 1) := by decide +kernel
theorem dX12_clause_128 : decode cX12_clause 128 = .ok (.aload_n 0, 1) := by decide +kernel
theorem dX12_clause_129 : decode cX12_clause 129 = .ok (.getfield 200, 3) := by decide +kernel
theorem dX12_clause_132 : decode cX12_clause 132 = .ok (.iconst 0, 1) := by decide +kernel
theorem dX12_clause_133 : decode cX12_clause 133 = .ok (.bipush 9, 2) := by decide +kernel
theorem dX12_clause_135 : decode cX12_clause 135 = .ok (.invokestatic 96, 3) := by decide +kernel
theorem dX12_clause_138 : decode cX12_clause 138 = .ok (.ifCond .ne 5, 3) := by decide +kernel
theorem dX12_clause_141 : decode cX12_clause 141 = .ok (.iconst 2, 1) := by decide +kernel
theorem dX12_clause_142 : decode cX12_clause 142 = .ok (.ireturn, 1) := by decide +kernel
theorem dX12_clause_143 : decode cX12_clause 143 = .ok (.aload_n 0, 1) := by decide +kernel
theorem dX12_clause_144 : decode cX12_clause 144 = .ok (.getfield 16, 3) := by decide +kernel
theorem dX12_clause_147 : decode cX12_clause 147 = .ok (.iload_n 1, 1) := by decide +kernel
theorem dX12_clause_148 : decode cX12_clause 148 = .ok (.iconst 1, 1) := by decide +kernel
theorem dX12_clause_149 : decode cX12_clause 149 = .ok (.iadd, 1) := by decide +kernel
theorem dX12_clause_150 : decode cX12_clause 150 = .ok (.aload_n 0, 1) := by decide +kernel
theorem dX12_clause_151 : decode cX12_clause 151 = .ok (.getfield 200, 3) := by decide +kernel
theorem dX12_clause_154 : decode cX12_clause 154 = .ok (.iastore, 1) := by decide +kernel
theorem dX12_clause_155 : decode cX12_clause 155 = .ok (.aload_n 0, 1) := by decide +kernel
theorem dX12_clause_156 : decode cX12_clause 156 = .ok (.invokevirtual 249, 3) := by decide +kernel
theorem dX12_clause_159 : decode cX12_clause 159 = .ok (.aload_n 0, 1) := by decide +kernel
theorem dX12_clause_160 : decode cX12_clause 160 = .ok (.getfield 246, 3) := by decide +kernel
theorem dX12_clause_163 : decode cX12_clause 163 = .ok (.iconst 2, 1) := by decide +kernel
theorem dX12_clause_164 : decode cX12_clause 164 = .ok (.if_icmp .ne 10, 3) := by decide +kernel
theorem dX12_clause_167 : decode cX12_clause 167 = .ok (.aload_n 0, 1) := by decide +kernel
theorem dX12_clause_168 : decode cX12_clause 168 = .ok (.invokevirtual 285, 3) := by decide +kernel
theorem dX12_clause_171 : decode cX12_clause 171 = .ok (.goto 7, 3) := by decide +kernel
theorem dX12_clause_174 : decode cX12_clause 174 = .ok (.aload_n 0, 1) := by decide +kernel
theorem dX12_clause_175 : decode cX12_clause 175 = .ok (.invokevirtual 305, 3) := by decide +kernel
theorem dX12_clause_178 : decode cX12_clause 178 = .ok (.istore_n 2, 1) := by decide +kernel
theorem dX12_clause_179 : decode cX12_clause 179 = .ok (.iload_n 2, 1) := by decide +kernel
theorem dX12_clause_180 : decode cX12_clause 180 = .ok (.ifCond .eq 5, 3) := by decide +kernel
theorem dX12_clause_183 : decode cX12_clause 183 = .ok (.iload_n 2, 1) := by decide +kernel
theorem dX12_clause_184 : decode cX12_clause 184 = .ok (.ireturn, 1) := by decide +kernel
theorem dX12_clause_185 : decode cX12_clause 185 = .ok (.aload_n 0, 1) := by decide +kernel
theorem dX12_clause_186 : decode cX12_clause 186 = .ok (.getfield 16, 3) := by decide +kernel
theorem dX12_clause_189 : decode cX12_clause 189 = .ok (.iload_n 1, 1) := by decide +kernel
theorem dX12_clause_190 : decode cX12_clause 190 = .ok (.iconst 5, 1) := by decide +kernel
theorem dX12_clause_191 : decode cX12_clause 191 = .ok (.iadd, 1) := by decide +kernel
theorem dX12_clause_192 : decode cX12_clause 192 = .ok (.aload_n 0, 1) := by decide +kernel
theorem dX12_clause_193 : decode cX12_clause 193 = .ok (.getfield 222, 3) := by decide +kernel
theorem dX12_clause_196 : decode cX12_clause 196 = .ok (.iastore, 1) := by decide +kernel
theorem dX12_clause_197 : decode cX12_clause 197 = .ok (.aload_n 0, 1) := by decide +kernel
theorem dX12_clause_198 : decode cX12_clause 198 = .ok (.getfield 194, 3) := by decide +kernel
theorem dX12_clause_201 : decode cX12_clause 201 = .ok (.bipush 59, 2) := by decide +kernel
theorem dX12_clause_203 : decode cX12_clause 203 = .ok (.if_icmp .eq 5, 3) := by decide +kernel
theorem dX12_clause_206 : decode cX12_clause 206 = .ok (.iconst 1, 1) := by decide +kernel
theorem dX12_clause_207 : decode cX12_clause 207 = .ok (.ireturn, 1) := by decide +kernel
theorem dX12_clause_208 : decode cX12_clause 208 = .ok (.aload_n 0, 1) := by decide +kernel
theorem dX12_clause_209 : decode cX12_clause 209 = .ok (.dup, 1) := by decide +kernel
theorem dX12_clause_210 : decode cX12_clause 210 = .ok (.getfield 302, 3) := by decide +kernel
theorem dX12_clause_213 : decode cX12_clause 213 = .ok (.iconst 1, 1) := by decide +kernel
theorem dX12_clause_214 : decode cX12_clause 214 = .ok (.iadd, 1) := by decide +kernel
theorem dX12_clause_215 : decode cX12_clause 215 = .ok (.putfield 302, 3) := by decide +kernel
theorem dX12_clause_218 : decode cX12_clause 218 = .ok (.aload_n 0, 1) := by decide +kernel
theorem dX12_clause_219 : decode cX12_clause 219 = .ok (.invokevirtual 249, 3) := by decide +kernel
theorem dX12_clause_222 : decode cX12_clause 222 = .ok (.iconst 0, 1) := by decide +kernel
theorem dX12_clause_223 : decode cX12_clause 223 = .ok (.ireturn, 1) := by decide +kernel
theorem dX12_readText_0 : decode cX12_readText 0 = .ok (.aload_n 0, 1) := by decide +kernel
theorem dX12_readText_1 : decode cX12_readText 1 = .ok (.sipush 800, 3) := by decide +kernel
theorem dX12_readText_4 : decode cX12_readText 4 = .ok (.aload_n 0, 1) := by decide +kernel
theorem dX12_readText_5 : decode cX12_readText 5 = .ok (.getfield 7, 3) := by decide +kernel
theorem dX12_readText_8 : decode cX12_readText 8 = .ok (.bipush 8, 2) := by decide +kernel
theorem dX12_readText_10 : decode cX12_readText 10 = .ok (.iaload, 1) := by decide +kernel
theorem dX12_readText_11 : decode cX12_readText 11 = .ok (.imul, 1) := by decide +kernel
theorem dX12_readText_12 : decode cX12_readText 12 = .ok (.putfield 219, 3) := by decide +kernel
theorem dX12_readText_15 : decode cX12_readText 15 = .ok (.aload_n 0, 1) := by decide +kernel
theorem dX12_readText_16 : decode cX12_readText 16 = .ok (.iconst 0, 1) := by decide +kernel
theorem dX12_readText_17 : decode cX12_readText 17 = .ok (.putfield 302, 3) := by decide +kernel
theorem dX12_readText_20 : decode cX12_readText 20 = .ok (.aload_n 0, 1) := by decide +kernel
theorem dX12_readText_21 : decode cX12_readText 21 = .ok (.iconst 0, 1) := by decide +kernel
theorem dX12_readText_22 : decode cX12_readText 22 = .ok (.putfield 222, 3) := by decide +kernel
theorem dX12_readText_25 : decode cX12_readText 25 = .ok (.aload_n 0, 1) := by decide +kernel
theorem dX12_readText_26 : decode cX12_readText 26 = .ok (.iconst 0, 1) := by decide +kernel
theorem dX12_readText_27 : decode cX12_readText 27 = .ok (.putfield 232, 3) := by decide +kernel
