theorem dX11_votesYes_61 : decode cX11_votesYes 61 = .ok (.iastore, 1) := by decide +kernel
theorem dX11_votesYes_62 : decode cX11_votesYes 62 = .ok (.aload_n 0, 1) := by decide +kernel
theorem dX11_votesYes_63 : decode cX11_votesYes 63 = .ok (.getfield 64, 3) := by decide +kernel
theorem dX11_votesYes_66 : decode cX11_votesYes 66 = .ok (.bipush 7, 2) := by decide +kernel
theorem dX11_votesYes_68 : decode cX11_votesYes 68 = .ok (.aload 5, 2) := by decide +kernel
theorem dX11_votesYes_70 : decode cX11_votesYes 70 = .ok (.getfield 510, 3) := by decide +kernel
theorem dX11_votesYes_73 : decode cX11_votesYes 73 = .ok (.iload_n 1, 1) := by decide +kernel
theorem dX11_votesYes_74 : decode cX11_votesYes 74 = .ok (.iaload, 1) := by decide +kernel
theorem dX11_votesYes_75 : decode cX11_votesYes 75 = .ok (.iastore, 1) := by decide +kernel
theorem dX11_votesYes_76 : decode cX11_votesYes 76 = .ok (.aload_n 3, 1) := by decide +kernel
theorem dX11_votesYes_77 : decode cX11_votesYes 77 = .ok (.aload_n 3, 1) := by decide +kernel
theorem dX11_votesYes_78 : decode cX11_votesYes 78 = .ok (.iconst 3, 1) := by decide +kernel
theorem dX11_votesYes_79 : decode cX11_votesYes 79 = .ok (.invokevirtual 485, 3) := by decide +kernel
theorem dX11_votesYes_82 : decode cX11_votesYes 82 = .ok (.aload_n 0, 1) := by decide +kernel
theorem dX11_votesYes_83 : decode cX11_votesYes 83 = .ok (.getfield 64, 3) := by decide +kernel
theorem dX11_votesYes_86 : decode cX11_votesYes 86 = .ok (.aload_n 0, 1) := by decide +kernel
theorem dX11_votesYes_87 : decode cX11_votesYes 87 = .ok (.getfield 68, 3) := by decide +kernel
theorem dX11_votesYes_90 : decode cX11_votesYes 90 = .ok (.invokevirtual 378, 3) := by decide +kernel
theorem dX11_votesYes_93 : decode cX11_votesYes 93 = .ok (.ifCond .eq 7, 3) := by decide +kernel
theorem dX11_votesYes_96 : decode cX11_votesYes 96 = .ok (.iconst 1, 1) := by decide +kernel
theorem dX11_votesYes_97 : decode cX11_votesYes 97 = .ok (.goto 4, 3) := by decide +kernel
theorem dX11_votesYes_100 : decode cX11_votesYes 100 = .ok (.iconst 0, 1) := by decide +kernel
theorem dX11_votesYes_101 : decode cX11_votesYes 101 = .ok (.ireturn, 1) := by decide +kernel
theorem dX11_leastGift_0 : decode cX11_leastGift 0 = .ok (.iload_n 1, 1) := by decide +kernel
theorem dX11_leastGift_1 : decode cX11_leastGift 1 = .ok (.iload_n 2, 1) := by decide +kernel
theorem dX11_leastGift_2 : decode cX11_leastGift 2 = .ok (.if_icmp .le 5, 3) := by decide +kernel
theorem dX11_leastGift_5 : decode cX11_leastGift 5 = .ok (.iconst 0, 1) := by decide +kernel
theorem dX11_leastGift_6 : decode cX11_leastGift 6 = .ok (.ireturn, 1) := by decide +kernel
theorem dX11_leastGift_7 : decode cX11_leastGift 7 = .ok (.iload_n 2, 1) := by decide +kernel
theorem dX11_leastGift_8 : decode cX11_leastGift 8 = .ok (.iload_n 1, 1) := by decide +kernel
theorem dX11_leastGift_9 : decode cX11_leastGift 9 = .ok (.isub, 1) := by decide +kernel
theorem dX11_leastGift_10 : decode cX11_leastGift 10 = .ok (.iconst 2, 1) := by decide +kernel
theorem dX11_leastGift_11 : decode cX11_leastGift 11 = .ok (.idiv, 1) := by decide +kernel
theorem dX11_leastGift_12 : decode cX11_leastGift 12 = .ok (.iconst 1, 1) := by decide +kernel
theorem dX11_leastGift_13 : decode cX11_leastGift 13 = .ok (.iadd, 1) := by decide +kernel
theorem dX11_leastGift_14 : decode cX11_leastGift 14 = .ok (.istore_n 3, 1) := by decide +kernel
theorem dX11_leastGift_15 : decode cX11_leastGift 15 = .ok (.iconst 0, 1) := by decide +kernel
theorem dX11_leastGift_16 : decode cX11_leastGift 16 = .ok (.istore 4, 2) := by decide +kernel
theorem dX11_leastGift_18 : decode cX11_leastGift 18 = .ok (.iconst 0, 1) := by decide +kernel
theorem dX11_leastGift_19 : decode cX11_leastGift 19 = .ok (.istore 5, 2) := by decide +kernel
theorem dX11_leastGift_21 : decode cX11_leastGift 21 = .ok (.iload 5, 2) := by decide +kernel
theorem dX11_leastGift_23 : decode cX11_leastGift 23 = .ok (.iload_n 3, 1) := by decide +kernel
theorem dX11_leastGift_24 : decode cX11_leastGift 24 = .ok (.if_icmp .ge 132, 3) := by decide +kernel
theorem dX11_leastGift_27 : decode cX11_leastGift 27 = .ok (.iconst (-1), 1) := by decide +kernel
theorem dX11_leastGift_28 : decode cX11_leastGift 28 = .ok (.istore 6, 2) := by decide +kernel
theorem dX11_leastGift_30 : decode cX11_leastGift 30 = .ok (.iconst 0, 1) := by decide +kernel
theorem dX11_leastGift_31 : decode cX11_leastGift 31 = .ok (.istore 7, 2) := by decide +kernel
theorem dX11_leastGift_33 : decode cX11_leastGift 33 = .ok (.iload 7, 2) := by decide +kernel
theorem dX11_leastGift_35 : decode cX11_leastGift 35 = .ok (.aload_n 0, 1) := by decide +kernel
theorem dX11_leastGift_36 : decode cX11_leastGift 36 = .ok (.getfield 32, 3) := by decide +kernel
theorem dX11_leastGift_39 : decode cX11_leastGift 39 = .ok (.getfield 277, 3) := by decide +kernel
theorem dX11_leastGift_42 : decode cX11_leastGift 42 = .ok (.getfield 294, 3) := by decide +kernel
theorem dX11_leastGift_45 : decode cX11_leastGift 45 = .ok (.if_icmp .ge 73, 3) := by decide +kernel
theorem dX11_leastGift_48 : decode cX11_leastGift 48 = .ok (.aload_n 0, 1) := by decide +kernel
theorem dX11_leastGift_49 : decode cX11_leastGift 49 = .ok (.getfield 32, 3) := by decide +kernel
theorem dX11_leastGift_52 : decode cX11_leastGift 52 = .ok (.getfield 277, 3) := by decide +kernel
theorem dX11_leastGift_55 : decode cX11_leastGift 55 = .ok (.iload 7, 2) := by decide +kernel
theorem dX11_leastGift_57 : decode cX11_leastGift 57 = .ok (.invokevirtual 497, 3) := by decide +kernel
theorem dX11_leastGift_60 : decode cX11_leastGift 60 = .ok (.ifCond .eq 52, 3) := by decide +kernel
theorem dX11_leastGift_63 : decode cX11_leastGift 63 = .ok (.aload_n 0, 1) := by decide +kernel
theorem dX11_leastGift_64 : decode cX11_leastGift 64 = .ok (.getfield 73, 3) := by decide +kernel
theorem dX11_leastGift_67 : decode cX11_leastGift 67 = .ok (.iload 7, 2) := by decide +kernel
theorem dX11_leastGift_69 : decode cX11_leastGift 69 = .ok (.baload, 1) := by decide +kernel
theorem dX11_leastGift_70 : decode cX11_leastGift 70 = .ok (.ifCond .ne 42, 3) := by decide +kernel
theorem dX11_leastGift_73 : decode cX11_leastGift 73 = .ok (.iload 6, 2) := by decide +kernel
theorem dX11_leastGift_75 : decode cX11_leastGift 75 = .ok (.iconst (-1), 1) := by decide +kernel
theorem dX11_leastGift_76 : decode cX11_leastGift 76 = .ok (.if_icmp .eq 32, 3) := by decide +kernel
theorem dX11_leastGift_79 : decode cX11_leastGift 79 = .ok (.aload_n 0, 1) := by decide +kernel
theorem dX11_leastGift_80 : decode cX11_leastGift 80 = .ok (.getfield 32, 3) := by decide +kernel
theorem dX11_leastGift_83 : decode cX11_leastGift 83 = .ok (.getfield 277, 3) := by decide +kernel
theorem dX11_leastGift_86 : decode cX11_leastGift 86 = .ok (.getfield 507, 3) := by decide +kernel
theorem dX11_leastGift_89 : decode cX11_leastGift 89 = .ok (.iload 7, 2) := by decide +kernel
theorem dX11_leastGift_91 : decode cX11_leastGift 91 = .ok (.iaload, 1) := by decide +kernel
theorem dX11_leastGift_92 : decode cX11_leastGift 92 = .ok (.aload_n 0, 1) := by decide +kernel
theorem dX11_leastGift_93 : decode cX11_leastGift 93 = .ok (.getfield 32, 3) := by decide +kernel
theorem dX11_leastGift_96 : decode cX11_leastGift 96 = .ok (.getfield 277, 3) := by decide +kernel
theorem dX11_leastGift_99 : decode cX11_leastGift 99 = .ok (.getfield 507, 3) := by decide +kernel
theorem dX11_leastGift_102 : decode cX11_leastGift 102 = .ok (.iload 6, 2) := by decide +kernel
theorem dX11_leastGift_104 : decode cX11_leastGift 104 = .ok (.iaload, 1) := by decide +kernel
theorem dX11_leastGift_105 : decode cX11_leastGift 105 = .ok (.if_icmp .ge 7, 3) := by decide +kernel
theorem dX11_leastGift_108 : decode cX11_leastGift 108 = .ok (.iload 7, 2) := by decide +kernel
theorem dX11_leastGift_110 : decode cX11_leastGift 110 = .ok (.istore 6, 2) := by decide +kernel
theorem dX11_leastGift_112 : decode cX11_leastGift 112 = .ok (.iinc 7 1, 3) := by decide +kernel
theorem dX11_leastGift_115 : decode cX11_leastGift 115 = .ok (.goto (-82), 3) := by decide +kernel
theorem dX11_leastGift_118 : decode cX11_leastGift 118 = .ok (.iload 6, 2) := by decide +kernel
theorem dX11_leastGift_120 : decode cX11_leastGift 120 = .ok (.iconst (-1), 1) := by decide +kernel
theorem dX11_leastGift_121 : decode cX11_leastGift 121 = .ok (.if_icmp .eq 29, 3) := by decide +kernel
theorem dX11_leastGift_124 : decode cX11_leastGift 124 = .ok (.aload_n 0, 1) := by decide +kernel
theorem dX11_leastGift_125 : decode cX11_leastGift 125 = .ok (.getfield 73, 3) := by decide +kernel
theorem dX11_leastGift_128 : decode cX11_leastGift 128 = .ok (.iload 6, 2) := by decide +kernel
theorem dX11_leastGift_130 : decode cX11_leastGift 130 = .ok (.iconst 1, 1) := by decide +kernel
theorem dX11_leastGift_131 : decode cX11_leastGift 131 = .ok (.bastore, 1) := by decide +kernel
theorem dX11_leastGift_132 : decode cX11_leastGift 132 = .ok (.iload 4, 2) := by decide +kernel
theorem dX11_leastGift_134 : decode cX11_leastGift 134 = .ok (.aload_n 0, 1) := by decide +kernel
theorem dX11_leastGift_135 : decode cX11_leastGift 135 = .ok (.getfield 32, 3) := by decide +kernel
theorem dX11_leastGift_138 : decode cX11_leastGift 138 = .ok (.getfield 277, 3) := by decide +kernel
theorem dX11_leastGift_141 : decode cX11_leastGift 141 = .ok (.getfield 507, 3) := by decide +kernel
theorem dX11_leastGift_144 : decode cX11_leastGift 144 = .ok (.iload 6, 2) := by decide +kernel
theorem dX11_leastGift_146 : decode cX11_leastGift 146 = .ok (.iaload, 1) := by decide +kernel
theorem dX11_leastGift_147 : decode cX11_leastGift 147 = .ok (.iadd, 1) := by decide +kernel
theorem dX11_leastGift_148 : decode cX11_leastGift 148 = .ok (.istore 4, 2) := by decide +kernel
theorem dX11_leastGift_150 : decode cX11_leastGift 150 = .ok (.iinc 5 1, 3) := by decide +kernel
theorem dX11_leastGift_153 : decode cX11_leastGift 153 = .ok (.goto (-132), 3) := by decide +kernel
theorem dX11_leastGift_156 : decode cX11_leastGift 156 = .ok (.iload 4, 2) := by decide +kernel
theorem dX11_leastGift_158 : decode cX11_leastGift 158 = .ok (.ireturn, 1) := by decide +kernel
theorem dX11_findBest_0 : decode cX11_findBest 0 = .ok (.aload_n 0, 1) := by decide +kernel
theorem dX11_findBest_1 : decode cX11_findBest 1 = .ok (.getfield 32, 3) := by decide +kernel
theorem dX11_findBest_4 : decode cX11_findBest 4 = .ok (.getfield 180, 3) := by decide +kernel
theorem dX11_findBest_7 : decode cX11_findBest 7 = .ok (.astore 4, 2) := by decide +kernel
theorem dX11_findBest_9 : decode cX11_findBest 9 = .ok (.aload 4, 2) := by decide +kernel
theorem dX11_findBest_11 : decode cX11_findBest 11 = .ok (.bipush 65, 2) := by decide +kernel
theorem dX11_findBest_13 : decode cX11_findBest 13 = .ok (.putfield 413, 3) := by decide +kernel
theorem dX11_findBest_16 : decode cX11_findBest 16 = .ok (.aload 4, 2) := by decide +kernel
theorem dX11_findBest_18 : decode cX11_findBest 18 = .ok (.iconst 0, 1) := by decide +kernel
theorem dX11_findBest_19 : decode cX11_findBest 19 = .ok (.putfield 410, 3) := by decide +kernel
theorem dX11_findBest_22 : decode cX11_findBest 22 = .ok (.aload 4, 2) := by decide +kernel
theorem dX11_findBest_24 : decode cX11_findBest 24 = .ok (.iconst 0, 1) := by decide +kernel
theorem dX11_findBest_25 : decode cX11_findBest 25 = .ok (.putfield 407, 3) := by decide +kernel
theorem dX11_findBest_28 : decode cX11_findBest 28 = .ok (.iconst 0, 1) := by decide +kernel
theorem dX11_findBest_29 : decode cX11_findBest 29 = .ok (.istore 5, 2) := by decide +kernel
theorem dX11_findBest_31 : decode cX11_findBest 31 = .ok (.iload 5, 2) := by decide +kernel
theorem dX11_findBest_33 : decode cX11_findBest 33 = .ok (.iconst 1, 1) := by decide +kernel
theorem dX11_findBest_34 : decode cX11_findBest 34 = .ok (.aload 4, 2) := by decide +kernel
theorem dX11_findBest_36 : decode cX11_findBest 36 = .ok (.getfield 391, 3) := by decide +kernel
theorem dX11_findBest_39 : decode cX11_findBest 39 = .ok (.ishl, 1) := by decide +kernel
theorem dX11_findBest_40 : decode cX11_findBest 40 = .ok (.if_icmp .ge 95, 3) := by decide +kernel
theorem dX11_findBest_43 : decode cX11_findBest 43 = .ok (.aload 4, 2) := by decide +kernel
theorem dX11_findBest_45 : decode cX11_findBest 45 = .ok (.iload 5, 2) := by decide +kernel
theorem dX11_findBest_47 : decode cX11_findBest 47 = .ok (.invokevirtual 513, 3) := by decide +kernel
theorem dX11_findBest_50 : decode cX11_findBest 50 = .ok (.istore 6, 2) := by decide +kernel
theorem dX11_findBest_52 : decode cX11_findBest 52 = .ok (.iload 6, 2) := by decide +kernel
theorem dX11_findBest_54 : decode cX11_findBest 54 = .ok (.iload_n 1, 1) := by decide +kernel
theorem dX11_findBest_55 : decode cX11_findBest 55 = .ok (.if_icmp .gt 74, 3) := by decide +kernel
theorem dX11_findBest_58 : decode cX11_findBest 58 = .ok (.aload_n 0, 1) := by decide +kernel
theorem dX11_findBest_59 : decode cX11_findBest 59 = .ok (.aload 4, 2) := by decide +kernel
theorem dX11_findBest_61 : decode cX11_findBest 61 = .ok (.iload 5, 2) := by decide +kernel
theorem dX11_findBest_63 : decode cX11_findBest 63 = .ok (.invokevirtual 516, 3) := by decide +kernel
theorem dX11_findBest_66 : decode cX11_findBest 66 = .ok (.iload_n 2, 1) := by decide +kernel
theorem dX11_findBest_67 : decode cX11_findBest 67 = .ok (.iload_n 3, 1) := by decide +kernel
theorem dX11_findBest_68 : decode cX11_findBest 68 = .ok (.aload 4, 2) := by decide +kernel
theorem dX11_findBest_70 : decode cX11_findBest 70 = .ok (.getfield 413, 3) := by decide +kernel
theorem dX11_findBest_73 : decode cX11_findBest 73 = .ok (.invokevirtual 519, 3) := by decide +kernel
theorem dX11_findBest_76 : decode cX11_findBest 76 = .ok (.istore 7, 2) := by decide +kernel
theorem dX11_findBest_78 : decode cX11_findBest 78 = .ok (.iload 7, 2) := by decide +kernel
theorem dX11_findBest_80 : decode cX11_findBest 80 = .ok (.aload 4, 2) := by decide +kernel
theorem dX11_findBest_82 : decode cX11_findBest 82 = .ok (.getfield 413, 3) := by decide +kernel
theorem dX11_findBest_85 : decode cX11_findBest 85 = .ok (.if_icmp .lt 23, 3) := by decide +kernel
theorem dX11_findBest_88 : decode cX11_findBest 88 = .ok (.iload 7, 2) := by decide +kernel
theorem dX11_findBest_90 : decode cX11_findBest 90 = .ok (.aload 4, 2) := by decide +kernel
theorem dX11_findBest_92 : decode cX11_findBest 92 = .ok (.getfield 413, 3) := by decide +kernel
theorem dX11_findBest_95 : decode cX11_findBest 95 = .ok (.if_icmp .ne 34, 3) := by decide +kernel
theorem dX11_findBest_98 : decode cX11_findBest 98 = .ok (.iload 6, 2) := by decide +kernel
theorem dX11_findBest_100 : decode cX11_findBest 100 = .ok (.aload 4, 2) := by decide +kernel
theorem dX11_findBest_102 : decode cX11_findBest 102 = .ok (.getfield 410, 3) := by decide +kernel
theorem dX11_findBest_105 : decode cX11_findBest 105 = .ok (.if_icmp .ge 24, 3) := by decide +kernel
theorem dX11_findBest_108 : decode cX11_findBest 108 = .ok (.aload 4, 2) := by decide +kernel
theorem dX11_findBest_110 : decode cX11_findBest 110 = .ok (.iload 7, 2) := by decide +kernel
theorem dX11_findBest_112 : decode cX11_findBest 112 = .ok (.putfield 413, 3) := by decide +kernel
theorem dX11_findBest_115 : decode cX11_findBest 115 = .ok (.aload 4, 2) := by decide +kernel
theorem dX11_findBest_117 : decode cX11_findBest 117 = .ok (.iload 6, 2) := by decide +kernel
theorem dX11_findBest_119 : decode cX11_findBest 119 = .ok (.putfield 410, 3) := by decide +kernel
theorem dX11_findBest_122 : decode cX11_findBest 122 = .ok (.aload 4, 2) := by decide +kernel
theorem dX11_findBest_124 : decode cX11_findBest 124 = .ok (.iload 5, 2) := by decide +kernel
theorem dX11_findBest_126 : decode cX11_findBest 126 = .ok (.putfield 407, 3) := by decide +kernel
theorem dX11_findBest_129 : decode cX11_findBest 129 = .ok (.iinc 5 1, 3) := by decide +kernel
theorem dX11_findBest_132 : decode cX11_findBest 132 = .ok (.goto (-101), 3) := by decide +kernel
theorem dX11_findBest_135 : decode cX11_findBest 135 = .ok (.aload 4, 2) := by decide +kernel
theorem dX11_findBest_137 : decode cX11_findBest 137 = .ok (.iload_n 1, 1) := by decide +kernel
theorem dX11_findBest_138 : decode cX11_findBest 138 = .ok (.putfield 398, 3) := by decide +kernel
theorem dX11_findBest_141 : decode cX11_findBest 141 = .ok (.aload 4, 2) := by decide +kernel
theorem dX11_findBest_143 : decode cX11_findBest 143 = .ok (.iload_n 2, 1) := by decide +kernel
theorem dX11_findBest_144 : decode cX11_findBest 144 = .ok (.putfield 401, 3) := by decide +kernel
theorem dX11_findBest_147 : decode cX11_findBest 147 = .ok (.return_, 1) := by decide +kernel
theorem dX11_greatestLost_0 : decode cX11_greatestLost 0 = .ok (.iconst 0, 1) := by decide +kernel
theorem dX11_greatestLost_1 : decode cX11_greatestLost 1 = .ok (.istore 6, 2) := by decide +kernel
theorem dX11_greatestLost_3 : decode cX11_greatestLost 3 = .ok (.iconst 0, 1) := by decide +kernel
theorem dX11_greatestLost_4 : decode cX11_greatestLost 4 = .ok (.istore 7, 2) := by decide +kernel
theorem dX11_greatestLost_6 : decode cX11_greatestLost 6 = .ok (.iload 7, 2) := by decide +kernel
theorem dX11_greatestLost_8 : decode cX11_greatestLost 8 = .ok (.aload_n 0, 1) := by decide +kernel
theorem dX11_greatestLost_9 : decode cX11_greatestLost 9 = .ok (.getfield 32, 3) := by decide +kernel
theorem dX11_greatestLost_12 : decode cX11_greatestLost 12 = .ok (.getfield 163, 3) := by decide +kernel
theorem dX11_greatestLost_15 : decode cX11_greatestLost 15 = .ok (.getfield 167, 3) := by decide +kernel
theorem dX11_greatestLost_18 : decode cX11_greatestLost 18 = .ok (.if_icmp .ge 104, 3) := by decide +kernel
theorem dX11_greatestLost_21 : decode cX11_greatestLost 21 = .ok (.iload 6, 2) := by decide +kernel
theorem dX11_greatestLost_23 : decode cX11_greatestLost 23 = .ok (.iload 5, 2) := by decide +kernel
theorem dX11_greatestLost_25 : decode cX11_greatestLost 25 = .ok (.if_icmp .gt 97, 3) := by decide +kernel
theorem dX11_greatestLost_28 : decode cX11_greatestLost 28 = .ok (.iload 4, 2) := by decide +kernel
theorem dX11_greatestLost_30 : decode cX11_greatestLost 30 = .ok (.iload 7, 2) := by decide +kernel
theorem dX11_greatestLost_32 : decode cX11_greatestLost 32 = .ok (.invokestatic 243, 3) := by decide +kernel
theorem dX11_greatestLost_35 : decode cX11_greatestLost 35 = .ok (.ifCond .eq 81, 3) := by decide +kernel
theorem dX11_greatestLost_38 : decode cX11_greatestLost 38 = .ok (.aload_n 0, 1) := by decide +kernel
theorem dX11_greatestLost_39 : decode cX11_greatestLost 39 = .ok (.getfield 41, 3) := by decide +kernel
theorem dX11_greatestLost_42 : decode cX11_greatestLost 42 = .ok (.iload 7, 2) := by decide +kernel
theorem dX11_greatestLost_44 : decode cX11_greatestLost 44 = .ok (.aaload, 1) := by decide +kernel
theorem dX11_greatestLost_45 : decode cX11_greatestLost 45 = .ok (.aload_n 0, 1) := by decide +kernel
theorem dX11_greatestLost_46 : decode cX11_greatestLost 46 = .ok (.getfield 32, 3) := by decide +kernel
theorem dX11_greatestLost_49 : decode cX11_greatestLost 49 = .ok (.aload_n 0, 1) := by decide +kernel
theorem dX11_greatestLost_50 : decode cX11_greatestLost 50 = .ok (.getfield 32, 3) := by decide +kernel
theorem dX11_greatestLost_53 : decode cX11_greatestLost 53 = .ok (.getfield 77, 3) := by decide +kernel
theorem dX11_greatestLost_56 : decode cX11_greatestLost 56 = .ok (.invokevirtual 192, 3) := by decide +kernel
theorem dX11_greatestLost_59 : decode cX11_greatestLost 59 = .ok (.aload_n 0, 1) := by decide +kernel
theorem dX11_greatestLost_60 : decode cX11_greatestLost 60 = .ok (.getfield 46, 3) := by decide +kernel
theorem dX11_greatestLost_63 : decode cX11_greatestLost 63 = .ok (.aload_n 0, 1) := by decide +kernel
theorem dX11_greatestLost_64 : decode cX11_greatestLost 64 = .ok (.getfield 41, 3) := by decide +kernel
theorem dX11_greatestLost_67 : decode cX11_greatestLost 67 = .ok (.iload 7, 2) := by decide +kernel
theorem dX11_greatestLost_69 : decode cX11_greatestLost 69 = .ok (.aaload, 1) := by decide +kernel
theorem dX11_greatestLost_70 : decode cX11_greatestLost 70 = .ok (.invokevirtual 523, 3) := by decide +kernel
theorem dX11_greatestLost_73 : decode cX11_greatestLost 73 = .ok (.aload_n 0, 1) := by decide +kernel
theorem dX11_greatestLost_74 : decode cX11_greatestLost 74 = .ok (.getfield 46, 3) := by decide +kernel
theorem dX11_greatestLost_77 : decode cX11_greatestLost 77 = .ok (.lload_n 1, 1) := by decide +kernel
theorem dX11_greatestLost_78 : decode cX11_greatestLost 78 = .ok (.putfield 527, 3) := by decide +kernel
theorem dX11_greatestLost_81 : decode cX11_greatestLost 81 = .ok (.aload_n 0, 1) := by decide +kernel
theorem dX11_greatestLost_82 : decode cX11_greatestLost 82 = .ok (.getfield 46, 3) := by decide +kernel
theorem dX11_greatestLost_85 : decode cX11_greatestLost 85 = .ok (.aload_n 0, 1) := by decide +kernel
theorem dX11_greatestLost_86 : decode cX11_greatestLost 86 = .ok (.getfield 32, 3) := by decide +kernel
theorem dX11_greatestLost_89 : decode cX11_greatestLost 89 = .ok (.iload_n 3, 1) := by decide +kernel
theorem dX11_greatestLost_90 : decode cX11_greatestLost 90 = .ok (.invokevirtual 192, 3) := by decide +kernel
theorem dX11_greatestLost_93 : decode cX11_greatestLost 93 = .ok (.aload_n 0, 1) := by decide +kernel
theorem dX11_greatestLost_94 : decode cX11_greatestLost 94 = .ok (.getfield 46, 3) := by decide +kernel
theorem dX11_greatestLost_97 : decode cX11_greatestLost 97 = .ok (.lconst 0, 1) := by decide +kernel
theorem dX11_greatestLost_98 : decode cX11_greatestLost 98 = .ok (.putfield 527, 3) := by decide +kernel
theorem dX11_greatestLost_101 : decode cX11_greatestLost 101 = .ok (.iload 6, 2) := by decide +kernel
theorem dX11_greatestLost_103 : decode cX11_greatestLost 103 = .ok (.aload_n 0, 1) := by decide +kernel
theorem dX11_greatestLost_104 : decode cX11_greatestLost 104 = .ok (.getfield 46, 3) := by decide +kernel
theorem dX11_greatestLost_107 : decode cX11_greatestLost 107 = .ok (.iload_n 3, 1) := by decide +kernel
theorem dX11_greatestLost_108 : decode cX11_greatestLost 108 = .ok (.invokestatic 219, 3) := by decide +kernel
theorem dX11_greatestLost_111 : decode cX11_greatestLost 111 = .ok (.invokestatic 15, 3) := by decide +kernel
theorem dX11_greatestLost_114 : decode cX11_greatestLost 114 = .ok (.istore 6, 2) := by decide +kernel
theorem dX11_greatestLost_116 : decode cX11_greatestLost 116 = .ok (.iinc 7 1, 3) := by decide +kernel
theorem dX11_greatestLost_119 : decode cX11_greatestLost 119 = .ok (.goto (-113), 3) := by decide +kernel
theorem dX11_greatestLost_122 : decode cX11_greatestLost 122 = .ok (.iload 6, 2) := by decide +kernel
theorem dX11_greatestLost_124 : decode cX11_greatestLost 124 = .ok (.ireturn, 1) := by decide +kernel
theorem dX12_init_0 : decode cX12_init 0 = .ok (.aload_n 0, 1) := by decide +kernel
theorem dX12_init_1 : decode cX12_init 1 = .ok (.invokespecial 1, 3) := by decide +kernel
theorem dX12_init_4 : decode cX12_init 4 = .ok (.aload_n 0, 1) := by decide +kernel
theorem dX12_init_5 : decode cX12_init 5 = .ok (.sipush 8020, 3) := by decide +kernel
theorem dX12_init_8 : decode cX12_init 8 = .ok (.newarray .int, 2) := by decide +kernel
theorem dX12_init_10 : decode cX12_init 10 = .ok (.putfield 7, 3) := by decide +kernel
theorem dX12_init_13 : decode cX12_init 13 = .ok (.aload_n 0, 1) := by decide +kernel
theorem dX12_init_14 : decode cX12_init 14 = .ok (.sipush 8020, 3) := by decide +kernel
theorem dX12_init_17 : decode cX12_init 17 = .ok (.newarray .int, 2) := by decide +kernel
theorem dX12_init_19 : decode cX12_init 19 = .ok (.putfield 13, 3) := by decide +kernel
theorem dX12_init_22 : decode cX12_init 22 = .ok (.aload_n 0, 1) := by decide +kernel
theorem dX12_init_23 : decode cX12_init 23 = .ok (.sipush 8000, 3) := by decide +kernel
theorem dX12_init_26 : decode cX12_init 26 = .ok (.newarray .int, 2) := by decide +kernel
theorem dX12_init_28 : decode cX12_init 28 = .ok (.putfield 16, 3) := by decide +kernel
theorem dX12_init_31 : decode cX12_init 31 = .ok (.aload_n 0, 1) := by decide +kernel
theorem dX12_init_32 : decode cX12_init 32 = .ok (.bipush 64, 2) := by decide +kernel
theorem dX12_init_34 : decode cX12_init 34 = .ok (.newarray .int, 2) := by decide +kernel
theorem dX12_init_36 : decode cX12_init 36 = .ok (.putfield 19, 3) := by decide +kernel
theorem dX12_init_39 : decode cX12_init 39 = .ok (.aload_n 0, 1) := by decide +kernel
theorem dX12_init_40 : decode cX12_init 40 = .ok (.bipush 64, 2) := by decide +kernel
theorem dX12_init_42 : decode cX12_init 42 = .ok (.newarray .int, 2) := by decide +kernel
theorem dX12_init_44 : decode cX12_init 44 = .ok (.putfield 22, 3) := by decide +kernel
theorem dX12_init_47 : decode cX12_init 47 = .ok (.aload_n 0, 1) := by decide +kernel
theorem dX12_init_48 : decode cX12_init 48 = .ok (.bipush 64, 2) := by decide +kernel
theorem dX12_init_50 : decode cX12_init 50 = .ok (.newarray .int, 2) := by decide +kernel
theorem dX12_init_52 : decode cX12_init 52 = .ok (.putfield 25, 3) := by decide +kernel
theorem dX12_init_55 : decode cX12_init 55 = .ok (.aload_n 0, 1) := by decide +kernel
theorem dX12_init_56 : decode cX12_init 56 = .ok (.bipush 64, 2) := by decide +kernel
theorem dX12_init_58 : decode cX12_init 58 = .ok (.newarray .int, 2) := by decide +kernel
theorem dX12_init_60 : decode cX12_init 60 = .ok (.putfield 28, 3) := by decide +kernel
theorem dX12_init_63 : decode cX12_init 63 = .ok (.aload_n 0, 1) := by decide +kernel
theorem dX12_init_64 : decode cX12_init 64 = .ok (.bipush 64, 2) := by decide +kernel
theorem dX12_init_66 : decode cX12_init 66 = .ok (.newarray .int, 2) := by decide +kernel
theorem dX12_init_68 : decode cX12_init 68 = .ok (.putfield 31, 3) := by decide +kernel
theorem dX12_init_71 : decode cX12_init 71 = .ok (.aload_n 0, 1) := by decide +kernel
theorem dX12_init_72 : decode cX12_init 72 = .ok (.bipush 64, 2) := by decide +kernel
theorem dX12_init_74 : decode cX12_init 74 = .ok (.newarray .int, 2) := by decide +kernel
theorem dX12_init_76 : decode cX12_init 76 = .ok (.putfield 34, 3) := by decide +kernel
theorem dX12_init_79 : decode cX12_init 79 = .ok (.aload_n 0, 1) := by decide +kernel
theorem dX12_init_80 : decode cX12_init 80 = .ok (.bipush 64, 2) := by decide +kernel
theorem dX12_init_82 : decode cX12_init 82 = .ok (.newarray .int, 2) := by decide +kernel
theorem dX12_init_84 : decode cX12_init 84 = .ok (.putfield 37, 3) := by decide +kernel
theorem dX12_init_87 : decode cX12_init 87 = .ok (.aload_n 0, 1) := by decide +kernel
theorem dX12_init_88 : decode cX12_init 88 = .ok (.bipush 64, 2) := by decide +kernel
theorem dX12_init_90 : decode cX12_init 90 = .ok (.newarray .int, 2) := by decide +kernel
theorem dX12_init_92 : decode cX12_init 92 = .ok (.putfield 40, 3) := by decide +kernel
theorem dX12_init_95 : decode cX12_init 95 = .ok (.aload_n 0, 1) := by decide +kernel
theorem dX12_init_96 : decode cX12_init 96 = .ok (.bipush 64, 2) := by decide +kernel
theorem dX12_init_98 : decode cX12_init 98 = .ok (.newarray .boolean, 2) := by decide +kernel
theorem dX12_init_100 : decode cX12_init 100 = .ok (.putfield 43, 3) := by decide +kernel
theorem dX12_init_103 : decode cX12_init 103 = .ok (.aload_n 0, 1) := by decide +kernel
theorem dX12_init_104 : decode cX12_init 104 = .ok (.ldc 47, 2) := by decide +kernel
theorem dX12_init_106 : decode cX12_init 106 = .ok (.newarray .int, 2) := by decide +kernel
theorem dX12_init_108 : decode cX12_init 108 = .ok (.putfield 48, 3) := by decide +kernel
theorem dX12_init_111 : decode cX12_init 111 = .ok (.aload_n 0, 1) := by decide +kernel
theorem dX12_init_112 : decode cX12_init 112 = .ok (.bipush 8, 2) := by decide +kernel
theorem dX12_init_114 : decode cX12_init 114 = .ok (.newarray .int, 2) := by decide +kernel
theorem dX12_init_116 : decode cX12_init 116 = .ok (.putfield 51, 3) := by decide +kernel
theorem dX12_init_119 : decode cX12_init 119 = .ok (.aload_n 0, 1) := by decide +kernel
theorem dX12_init_120 : decode cX12_init 120 = .ok (.sipush 300, 3) := by decide +kernel
theorem dX12_init_123 : decode cX12_init 123 = .ok (.newarray .int, 2) := by decide +kernel
theorem dX12_init_125 : decode cX12_init 125 = .ok (.putfield 54, 3) := by decide +kernel
theorem dX12_init_128 : decode cX12_init 128 = .ok (.aload_n 0, 1) := by decide +kernel
theorem dX12_init_129 : decode cX12_init 129 = .ok (.iconst (-1), 1) := by decide +kernel
theorem dX12_init_130 : decode cX12_init 130 = .ok (.putfield 57, 3) := by decide +kernel
theorem dX12_init_133 : decode cX12_init 133 = .ok (.aload_n 0, 1) := by decide +kernel
theorem dX12_init_134 : decode cX12_init 134 = .ok (.iconst (-1), 1) := by decide +kernel
theorem dX12_init_135 : decode cX12_init 135 = .ok (.putfield 61, 3) := by decide +kernel
theorem dX12_init_138 : decode cX12_init 138 = .ok (.aload_n 0, 1) := by decide +kernel
theorem dX12_init_139 : decode cX12_init 139 = .ok (.sipush 160, 3) := by decide +kernel
theorem dX12_init_142 : decode cX12_init 142 = .ok (.newarray .int, 2) := by decide +kernel
theorem dX12_init_144 : decode cX12_init 144 = .ok (.putfield 64, 3) := by decide +kernel
theorem dX12_init_147 : decode cX12_init 147 = .ok (.aload_n 0, 1) := by decide +kernel
theorem dX12_init_148 : decode cX12_init 148 = .ok (.bipush 8, 2) := by decide +kernel
theorem dX12_init_150 : decode cX12_init 150 = .ok (.newarray .int, 2) := by decide +kernel
theorem dX12_init_152 : decode cX12_init 152 = .ok (.putfield 67, 3) := by decide +kernel
theorem dX12_init_155 : decode cX12_init 155 = .ok (.aload_n 0, 1) := by decide +kernel
theorem dX12_init_156 : decode cX12_init 156 = .ok (.sipush 330, 3) := by decide +kernel
theorem dX12_init_159 : decode cX12_init 159 = .ok (.newarray .long, 2) := by decide +kernel
theorem dX12_init_161 : decode cX12_init 161 = .ok (.putfield 70, 3) := by decide +kernel
theorem dX12_init_164 : decode cX12_init 164 = .ok (.aload_n 0, 1) := by decide +kernel
theorem dX12_init_165 : decode cX12_init 165 = .ok (.sipush 330, 3) := by decide +kernel
theorem dX12_init_168 : decode cX12_init 168 = .ok (.newarray .boolean, 2) := by decide +kernel
theorem dX12_init_170 : decode cX12_init 170 = .ok (.putfield 74, 3) := by decide +kernel
theorem dX12_init_173 : decode cX12_init 173 = .ok (.aload_n 0, 1) := by decide +kernel
theorem dX12_init_174 : decode cX12_init 174 = .ok (.bipush 20, 2) := by decide +kernel
theorem dX12_init_176 : decode cX12_init 176 = .ok (.newarray .int, 2) := by decide +kernel
theorem dX12_init_178 : decode cX12_init 178 = .ok (.putfield 77, 3) := by decide +kernel
theorem dX12_init_181 : decode cX12_init 181 = .ok (.aload_n 0, 1) := by decide +kernel
theorem dX12_init_182 : decode cX12_init 182 = .ok (.bipush 60, 2) := by decide +kernel
theorem dX12_init_184 : decode cX12_init 184 = .ok (.newarray .int, 2) := by decide +kernel
theorem dX12_init_186 : decode cX12_init 186 = .ok (.putfield 80, 3) := by decide +kernel
theorem dX12_init_189 : decode cX12_init 189 = .ok (.aload_n 0, 1) := by decide +kernel
theorem dX12_init_190 : decode cX12_init 190 = .ok (.bipush 8, 2) := by decide +kernel
theorem dX12_init_192 : decode cX12_init 192 = .ok (.newarray .boolean, 2) := by decide +kernel
theorem dX12_init_194 : decode cX12_init 194 = .ok (.putfield 83, 3) := by decide +kernel
theorem dX12_init_197 : decode cX12_init 197 = .ok (.aload_n 0, 1) := by decide +kernel
theorem dX12_init_198 : decode cX12_init 198 = .ok (.iload_n 1, 1) := by decide +kernel
theorem dX12_init_199 : decode cX12_init 199 = .ok (.iconst 2, 1) := by decide +kernel
theorem dX12_init_200 : decode cX12_init 200 = .ok (.if_icmp .ge 7, 3) := by decide +kernel
theorem dX12_init_203 : decode cX12_init 203 = .ok (.iconst 2, 1) := by decide +kernel
theorem dX12_init_204 : decode cX12_init 204 = .ok (.goto 15, 3) := by decide +kernel
theorem dX12_init_207 : decode cX12_init 207 = .ok (.iload_n 1, 1) := by decide +kernel
theorem dX12_init_208 : decode cX12_init 208 = .ok (.bipush 8, 2) := by decide +kernel
theorem dX12_init_210 : decode cX12_init 210 = .ok (.if_icmp .le 8, 3) := by decide +kernel
theorem dX12_init_213 : decode cX12_init 213 = .ok (.bipush 8, 2) := by decide +kernel
theorem dX12_init_215 : decode cX12_init 215 = .ok (.goto 4, 3) := by decide +kernel
theorem dX12_init_218 : decode cX12_init 218 = .ok (.iload_n 1, 1) := by decide +kernel
theorem dX12_init_219 : decode cX12_init 219 = .ok (.putfield 86, 3) := by decide +kernel
theorem dX12_init_222 : decode cX12_init 222 = .ok (.aload_n 0, 1) := by decide +kernel
theorem dX12_init_223 : decode cX12_init 223 = .ok (.iload_n 2, 1) := by decide +kernel
theorem dX12_init_224 : decode cX12_init 224 = .ok (.iconst 2, 1) := by decide +kernel
theorem dX12_init_225 : decode cX12_init 225 = .ok (.if_icmp .ge 7, 3) := by decide +kernel
theorem dX12_init_228 : decode cX12_init 228 = .ok (.iconst 2, 1) := by decide +kernel
theorem dX12_init_229 : decode cX12_init 229 = .ok (.goto 15, 3) := by decide +kernel
theorem dX12_init_232 : decode cX12_init 232 = .ok (.iload_n 2, 1) := by decide +kernel
theorem dX12_init_233 : decode cX12_init 233 = .ok (.bipush 8, 2) := by decide +kernel
theorem dX12_init_235 : decode cX12_init 235 = .ok (.if_icmp .le 8, 3) := by decide +kernel
theorem dX12_init_238 : decode cX12_init 238 = .ok (.bipush 8, 2) := by decide +kernel
theorem dX12_init_240 : decode cX12_init 240 = .ok (.goto 4, 3) := by decide +kernel
theorem dX12_init_243 : decode cX12_init 243 = .ok (.iload_n 2, 1) := by decide +kernel
theorem dX12_init_244 : decode cX12_init 244 = .ok (.putfield 89, 3) := by decide +kernel
theorem dX12_init_247 : decode cX12_init 247 = .ok (.aload_n 0, 1) := by decide +kernel
theorem dX12_init_248 : decode cX12_init 248 = .ok (.getfield 7, 3) := by decide +kernel
theorem dX12_init_251 : decode cX12_init 251 = .ok (.bipush 11, 2) := by decide +kernel
theorem dX12_init_253 : decode cX12_init 253 = .ok (.iconst 3, 1) := by decide +kernel
theorem dX12_init_254 : decode cX12_init 254 = .ok (.iastore, 1) := by decide +kernel
theorem dX12_init_255 : decode cX12_init 255 = .ok (.aload_n 0, 1) := by decide +kernel
theorem dX12_init_256 : decode cX12_init 256 = .ok (.getfield 7, 3) := by decide +kernel
theorem dX12_init_259 : decode cX12_init 259 = .ok (.bipush 12, 2) := by decide +kernel
theorem dX12_init_261 : decode cX12_init 261 = .ok (.bipush 10, 2) := by decide +kernel
theorem dX12_init_263 : decode cX12_init 263 = .ok (.iastore, 1) := by decide +kernel
theorem dX12_init_264 : decode cX12_init 264 = .ok (.aload_n 0, 1) := by decide +kernel
theorem dX12_init_265 : decode cX12_init 265 = .ok (.getfield 7, 3) := by decide +kernel
theorem dX12_init_268 : decode cX12_init 268 = .ok (.bipush 13, 2) := by decide +kernel
theorem dX12_init_270 : decode cX12_init 270 = .ok (.bipush 6, 2) := by decide +kernel
theorem dX12_init_272 : decode cX12_init 272 = .ok (.iastore, 1) := by decide +kernel
theorem dX12_init_273 : decode cX12_init 273 = .ok (.aload_n 0, 1) := by decide +kernel
theorem dX12_init_274 : decode cX12_init 274 = .ok (.getfield 7, 3) := by decide +kernel
theorem dX12_init_277 : decode cX12_init 277 = .ok (.aload_n 0, 1) := by decide +kernel
theorem dX12_init_278 : decode cX12_init 278 = .ok (.getfield 13, 3) := by decide +kernel
theorem dX12_init_281 : decode cX12_init 281 = .ok (.invokestatic 92, 3) := by decide +kernel
theorem dX12_init_284 : decode cX12_init 284 = .ok (.return_, 1) := by decide +kernel
theorem dX12_copy_0 : decode cX12_copy 0 = .ok (.iconst 0, 1) := by decide +kernel
theorem dX12_copy_1 : decode cX12_copy 1 = .ok (.istore_n 2, 1) := by decide +kernel
theorem dX12_copy_2 : decode cX12_copy 2 = .ok (.iload_n 2, 1) := by decide +kernel
theorem dX12_copy_3 : decode cX12_copy 3 = .ok (.sipush 8020, 3) := by decide +kernel
theorem dX12_copy_6 : decode cX12_copy 6 = .ok (.if_icmp .ge 15, 3) := by decide +kernel
theorem dX12_copy_9 : decode cX12_copy 9 = .ok (.aload_n 1, 1) := by decide +kernel
theorem dX12_copy_10 : decode cX12_copy 10 = .ok (.iload_n 2, 1) := by decide +kernel
theorem dX12_copy_11 : decode cX12_copy 11 = .ok (.aload_n 0, 1) := by decide +kernel
theorem dX12_copy_12 : decode cX12_copy 12 = .ok (.iload_n 2, 1) := by decide +kernel
theorem dX12_copy_13 : decode cX12_copy 13 = .ok (.iaload, 1) := by decide +kernel
theorem dX12_copy_14 : decode cX12_copy 14 = .ok (.iastore, 1) := by decide +kernel
theorem dX12_copy_15 : decode cX12_copy 15 = .ok (.iinc 2 1, 3) := by decide +kernel
theorem dX12_copy_18 : decode cX12_copy 18 = .ok (.goto (-16), 3) := by decide +kernel
theorem dX12_copy_21 : decode cX12_copy 21 = .ok (.return_, 1) := by decide +kernel
theorem dX12_isIn_0 : decode cX12_isIn 0 = .ok (.iload_n 0, 1) := by decide +kernel
theorem dX12_isIn_1 : decode cX12_isIn 1 = .ok (.iload_n 1, 1) := by decide +kernel
theorem dX12_isIn_2 : decode cX12_isIn 2 = .ok (.if_icmp .lt 12, 3) := by decide +kernel
theorem dX12_isIn_5 : decode cX12_isIn 5 = .ok (.iload_n 0, 1) := by decide +kernel
theorem dX12_isIn_6 : decode cX12_isIn 6 = .ok (.iload_n 2, 1) := by decide +kernel
theorem dX12_isIn_7 : decode cX12_isIn 7 = .ok (.if_icmp .gt 7, 3) := by decide +kernel
theorem dX12_isIn_10 : decode cX12_isIn 10 = .ok (.iconst 1, 1) := by decide +kernel
theorem dX12_isIn_11 : decode cX12_isIn 11 = .ok (.goto 4, 3) := by decide +kernel
theorem dX12_isIn_14 : decode cX12_isIn 14 = .ok (.iconst 0, 1) := by decide +kernel
theorem dX12_isIn_15 : decode cX12_isIn 15 = .ok (.ireturn, 1) := by decide +kernel
theorem dX12_isCell_0 : decode cX12_isCell 0 = .ok (.iload_n 1, 1) := by decide +kernel
theorem dX12_isCell_1 : decode cX12_isCell 1 = .ok (.iconst 0, 1) := by decide +kernel
theorem dX12_isCell_2 : decode cX12_isCell 2 = .ok (.aload_n 0, 1) := by decide +kernel
theorem dX12_isCell_3 : decode cX12_isCell 3 = .ok (.getfield 86, 3) := by decide +kernel
theorem dX12_isCell_6 : decode cX12_isCell 6 = .ok (.aload_n 0, 1) := by decide +kernel
theorem dX12_isCell_7 : decode cX12_isCell 7 = .ok (.getfield 89, 3) := by decide +kernel
theorem dX12_isCell_10 : decode cX12_isCell 10 = .ok (.imul, 1) := by decide +kernel
theorem dX12_isCell_11 : decode cX12_isCell 11 = .ok (.iconst 1, 1) := by decide +kernel
theorem dX12_isCell_12 : decode cX12_isCell 12 = .ok (.isub, 1) := by decide +kernel
theorem dX12_isCell_13 : decode cX12_isCell 13 = .ok (.invokestatic 96, 3) := by decide +kernel
theorem dX12_isCell_16 : decode cX12_isCell 16 = .ok (.ireturn, 1) := by decide +kernel
theorem dX12_isWeek_0 : decode cX12_isWeek 0 = .ok (.iload_n 0, 1) := by decide +kernel
theorem dX12_isWeek_1 : decode cX12_isWeek 1 = .ok (.iconst 0, 1) := by decide +kernel
theorem dX12_isWeek_2 : decode cX12_isWeek 2 = .ok (.bipush 99, 2) := by decide +kernel
theorem dX12_isWeek_4 : decode cX12_isWeek 4 = .ok (.invokestatic 96, 3) := by decide +kernel
theorem dX12_isWeek_7 : decode cX12_isWeek 7 = .ok (.ireturn, 1) := by decide +kernel
theorem dX12_abs_0 : decode cX12_abs 0 = .ok (.iload_n 0, 1) := by decide +kernel
theorem dX12_abs_1 : decode cX12_abs 1 = .ok (.ifCond .ge 8, 3) := by decide +kernel
theorem dX12_abs_4 : decode cX12_abs 4 = .ok (.iload_n 0, 1) := by decide +kernel
theorem dX12_abs_5 : decode cX12_abs 5 = .ok (.ineg, 1) := by decide +kernel
theorem dX12_abs_6 : decode cX12_abs 6 = .ok (.goto 4, 3) := by decide +kernel
theorem dX12_abs_9 : decode cX12_abs 9 = .ok (.iload_n 0, 1) := by decide +kernel
theorem dX12_abs_10 : decode cX12_abs 10 = .ok (.ireturn, 1) := by decide +kernel
theorem dX12_beside_0 : decode cX12_beside 0 = .ok (.iload_n 1, 1) := by decide +kernel
theorem dX12_beside_1 : decode cX12_beside 1 = .ok (.aload_n 0, 1) := by decide +kernel
theorem dX12_beside_2 : decode cX12_beside 2 = .ok (.getfield 86, 3) := by decide +kernel
theorem dX12_beside_5 : decode cX12_beside 5 = .ok (.irem, 1) := by decide +kernel
theorem dX12_beside_6 : decode cX12_beside 6 = .ok (.iload_n 2, 1) := by decide +kernel
theorem dX12_beside_7 : decode cX12_beside 7 = .ok (.ifCond .ne 7, 3) := by decide +kernel
theorem dX12_beside_10 : decode cX12_beside 10 = .ok (.iconst 1, 1) := by decide +kernel
theorem dX12_beside_11 : decode cX12_beside 11 = .ok (.goto 13, 3) := by decide +kernel
theorem dX12_beside_14 : decode cX12_beside 14 = .ok (.iload_n 2, 1) := by decide +kernel
theorem dX12_beside_15 : decode cX12_beside 15 = .ok (.iconst 1, 1) := by decide +kernel
theorem dX12_beside_16 : decode cX12_beside 16 = .ok (.if_icmp .ne 7, 3) := by decide +kernel
theorem dX12_beside_19 : decode cX12_beside 19 = .ok (.iconst (-1), 1) := by decide +kernel
theorem dX12_beside_20 : decode cX12_beside 20 = .ok (.goto 4, 3) := by decide +kernel
theorem dX12_beside_23 : decode cX12_beside 23 = .ok (.iconst 0, 1) := by decide +kernel
theorem dX12_beside_24 : decode cX12_beside 24 = .ok (.iadd, 1) := by decide +kernel
theorem dX12_beside_25 : decode cX12_beside 25 = .ok (.istore_n 3, 1) := by decide +kernel
theorem dX12_beside_26 : decode cX12_beside 26 = .ok (.iload_n 1, 1) := by decide +kernel
theorem dX12_beside_27 : decode cX12_beside 27 = .ok (.aload_n 0, 1) := by decide +kernel
theorem dX12_beside_28 : decode cX12_beside 28 = .ok (.getfield 86, 3) := by decide +kernel
theorem dX12_beside_31 : decode cX12_beside 31 = .ok (.idiv, 1) := by decide +kernel
theorem dX12_beside_32 : decode cX12_beside 32 = .ok (.iload_n 2, 1) := by decide +kernel
theorem dX12_beside_33 : decode cX12_beside 33 = .ok (.iconst 2, 1) := by decide +kernel
theorem dX12_beside_34 : decode cX12_beside 34 = .ok (.if_icmp .ne 7, 3) := by decide +kernel
theorem dX12_beside_37 : decode cX12_beside 37 = .ok (.iconst 1, 1) := by decide +kernel
theorem dX12_beside_38 : decode cX12_beside 38 = .ok (.goto 13, 3) := by decide +kernel
theorem dX12_beside_41 : decode cX12_beside 41 = .ok (.iload_n 2, 1) := by decide +kernel
theorem dX12_beside_42 : decode cX12_beside 42 = .ok (.iconst 3, 1) := by decide +kernel
theorem dX12_beside_43 : decode cX12_beside 43 = .ok (.if_icmp .ne 7, 3) := by decide +kernel
theorem dX12_beside_46 : decode cX12_beside 46 = .ok (.iconst (-1), 1) := by decide +kernel
theorem dX12_beside_47 : decode cX12_beside 47 = .ok (.goto 4, 3) := by decide +kernel
theorem dX12_beside_50 : decode cX12_beside 50 = .ok (.iconst 0, 1) := by decide +kernel
theorem dX12_beside_51 : decode cX12_beside 51 = .ok (.iadd, 1) := by decide +kernel
theorem dX12_beside_52 : decode cX12_beside 52 = .ok (.istore 4, 2) := by decide +kernel
theorem dX12_beside_54 : decode cX12_beside 54 = .ok (.iload_n 3, 1) := by decide +kernel
theorem dX12_beside_55 : decode cX12_beside 55 = .ok (.iconst 0, 1) := by decide +kernel
theorem dX12_beside_56 : decode cX12_beside 56 = .ok (.aload_n 0, 1) := by decide +kernel
theorem dX12_beside_57 : decode cX12_beside 57 = .ok (.getfield 86, 3) := by decide +kernel
theorem dX12_beside_60 : decode cX12_beside 60 = .ok (.iconst 1, 1) := by decide +kernel
theorem dX12_beside_61 : decode cX12_beside 61 = .ok (.isub, 1) := by decide +kernel
theorem dX12_beside_62 : decode cX12_beside 62 = .ok (.invokestatic 96, 3) := by decide +kernel
theorem dX12_beside_65 : decode cX12_beside 65 = .ok (.ifCond .eq 30, 3) := by decide +kernel
theorem dX12_beside_68 : decode cX12_beside 68 = .ok (.iload 4, 2) := by decide +kernel
theorem dX12_beside_70 : decode cX12_beside 70 = .ok (.iconst 0, 1) := by decide +kernel
theorem dX12_beside_71 : decode cX12_beside 71 = .ok (.aload_n 0, 1) := by decide +kernel
theorem dX12_beside_72 : decode cX12_beside 72 = .ok (.getfield 89, 3) := by decide +kernel
theorem dX12_beside_75 : decode cX12_beside 75 = .ok (.iconst 1, 1) := by decide +kernel
theorem dX12_beside_76 : decode cX12_beside 76 = .ok (.isub, 1) := by decide +kernel
theorem dX12_beside_77 : decode cX12_beside 77 = .ok (.invokestatic 96, 3) := by decide +kernel
theorem dX12_beside_80 : decode cX12_beside 80 = .ok (.ifCond .eq 15, 3) := by decide +kernel
theorem dX12_beside_83 : decode cX12_beside 83 = .ok (.iload 4, 2) := by decide +kernel
theorem dX12_beside_85 : decode cX12_beside 85 = .ok (.aload_n 0, 1) := by decide +kernel
theorem dX12_beside_86 : decode cX12_beside 86 = .ok (.getfield 86, 3) := by decide +kernel
theorem dX12_beside_89 : decode cX12_beside 89 = .ok (.imul, 1) := by decide +kernel
theorem dX12_beside_90 : decode cX12_beside 90 = .ok (.iload_n 3, 1) := by decide +kernel
theorem dX12_beside_91 : decode cX12_beside 91 = .ok (.iadd, 1) := by decide +kernel
theorem dX12_beside_92 : decode cX12_beside 92 = .ok (.goto 4, 3) := by decide +kernel
theorem dX12_beside_95 : decode cX12_beside 95 = .ok (.iconst (-1), 1) := by decide +kernel
theorem dX12_beside_96 : decode cX12_beside 96 = .ok (.ireturn, 1) := by decide +kernel
theorem dX12_cell_0 : decode cX12_cell 0 = .ok (.aload_n 0, 1) := by decide +kernel
theorem dX12_cell_1 : decode cX12_cell 1 = .ok (.iload_n 1, 1) := by decide +kernel
theorem dX12_cell_2 : decode cX12_cell 2 = .ok (.invokevirtual 100, 3) := by decide +kernel
theorem dX12_cell_5 : decode cX12_cell 5 = .ok (.ifCond .eq 21, 3) := by decide +kernel
theorem dX12_cell_8 : decode cX12_cell 8 = .ok (.iload_n 2, 1) := by decide +kernel
theorem dX12_cell_9 : decode cX12_cell 9 = .ok (.iconst 0, 1) := by decide +kernel
theorem dX12_cell_10 : decode cX12_cell 10 = .ok (.iconst 4, 1) := by decide +kernel
theorem dX12_cell_11 : decode cX12_cell 11 = .ok (.invokestatic 96, 3) := by decide +kernel
theorem dX12_cell_14 : decode cX12_cell 14 = .ok (.ifCond .eq 12, 3) := by decide +kernel
theorem dX12_cell_17 : decode cX12_cell 17 = .ok (.aload_n 0, 1) := by decide +kernel
theorem dX12_cell_18 : decode cX12_cell 18 = .ok (.getfield 7, 3) := by decide +kernel
theorem dX12_cell_21 : decode cX12_cell 21 = .ok (.iconst 0, 1) := by decide +kernel
theorem dX12_cell_22 : decode cX12_cell 22 = .ok (.iaload, 1) := by decide +kernel
theorem dX12_cell_23 : decode cX12_cell 23 = .ok (.ifCond .le 5, 3) := by decide +kernel
theorem dX12_cell_26 : decode cX12_cell 26 = .ok (.iconst 0, 1) := by decide +kernel
theorem dX12_cell_27 : decode cX12_cell 27 = .ok (.ireturn, 1) := by decide +kernel
theorem dX12_cell_28 : decode cX12_cell 28 = .ok (.iload_n 2, 1) := by decide +kernel
theorem dX12_cell_29 : decode cX12_cell 29 = .ok (.iconst 1, 1) := by decide +kernel
theorem dX12_cell_30 : decode cX12_cell 30 = .ok (.if_icmp .eq 8, 3) := by decide +kernel
theorem dX12_cell_33 : decode cX12_cell 33 = .ok (.iload_n 2, 1) := by decide +kernel
theorem dX12_cell_34 : decode cX12_cell 34 = .ok (.iconst 2, 1) := by decide +kernel
theorem dX12_cell_35 : decode cX12_cell 35 = .ok (.if_icmp .ne 7, 3) := by decide +kernel
theorem dX12_cell_38 : decode cX12_cell 38 = .ok (.iconst 1, 1) := by decide +kernel
theorem dX12_cell_39 : decode cX12_cell 39 = .ok (.goto 4, 3) := by decide +kernel
theorem dX12_cell_42 : decode cX12_cell 42 = .ok (.iconst 0, 1) := by decide +kernel
theorem dX12_cell_43 : decode cX12_cell 43 = .ok (.istore 4, 2) := by decide +kernel
theorem dX12_cell_45 : decode cX12_cell 45 = .ok (.iload 4, 2) := by decide +kernel
theorem dX12_cell_47 : decode cX12_cell 47 = .ok (.ifCond .eq 17, 3) := by decide +kernel
theorem dX12_cell_50 : decode cX12_cell 50 = .ok (.iload_n 3, 1) := by decide +kernel
theorem dX12_cell_51 : decode cX12_cell 51 = .ok (.iconst 1, 1) := by decide +kernel
theorem dX12_cell_52 : decode cX12_cell 52 = .ok (.sipush 999, 3) := by decide +kernel
theorem dX12_cell_55 : decode cX12_cell 55 = .ok (.invokestatic 96, 3) := by decide +kernel
theorem dX12_cell_58 : decode cX12_cell 58 = .ok (.ifCond .ne 12, 3) := by decide +kernel
theorem dX12_cell_61 : decode cX12_cell 61 = .ok (.goto 7, 3) := by decide +kernel
theorem dX12_cell_64 : decode cX12_cell 64 = .ok (.iload_n 3, 1) := by decide +kernel
theorem dX12_cell_65 : decode cX12_cell 65 = .ok (.ifCond .eq 5, 3) := by decide +kernel
theorem dX12_cell_68 : decode cX12_cell 68 = .ok (.iconst 0, 1) := by decide +kernel
theorem dX12_cell_69 : decode cX12_cell 69 = .ok (.ireturn, 1) := by decide +kernel
theorem dX12_cell_70 : decode cX12_cell 70 = .ok (.aload_n 0, 1) := by decide +kernel
theorem dX12_cell_71 : decode cX12_cell 71 = .ok (.getfield 7, 3) := by decide +kernel
theorem dX12_cell_74 : decode cX12_cell 74 = .ok (.bipush 20, 2) := by decide +kernel
theorem dX12_cell_76 : decode cX12_cell 76 = .ok (.iload_n 1, 1) := by decide +kernel
theorem dX12_cell_77 : decode cX12_cell 77 = .ok (.iadd, 1) := by decide +kernel
theorem dX12_cell_78 : decode cX12_cell 78 = .ok (.iload_n 2, 1) := by decide +kernel
theorem dX12_cell_79 : decode cX12_cell 79 = .ok (.iastore, 1) := by decide +kernel
theorem dX12_cell_80 : decode cX12_cell 80 = .ok (.aload_n 0, 1) := by decide +kernel
theorem dX12_cell_81 : decode cX12_cell 81 = .ok (.getfield 7, 3) := by decide +kernel
theorem dX12_cell_84 : decode cX12_cell 84 = .ok (.bipush 84, 2) := by decide +kernel
theorem dX12_cell_86 : decode cX12_cell 86 = .ok (.iload_n 1, 1) := by decide +kernel
theorem dX12_cell_87 : decode cX12_cell 87 = .ok (.iadd, 1) := by decide +kernel
theorem dX12_cell_88 : decode cX12_cell 88 = .ok (.iload_n 3, 1) := by decide +kernel
theorem dX12_cell_89 : decode cX12_cell 89 = .ok (.iastore, 1) := by decide +kernel
theorem dX12_cell_90 : decode cX12_cell 90 = .ok (.iconst 1, 1) := by decide +kernel
theorem dX12_cell_91 : decode cX12_cell 91 = .ok (.ireturn, 1) := by decide +kernel
theorem dX12_rules_0 : decode cX12_rules 0 = .ok (.iload_n 1, 1) := by decide +kernel
theorem dX12_rules_1 : decode cX12_rules 1 = .ok (.iconst 1, 1) := by decide +kernel
theorem dX12_rules_2 : decode cX12_rules 2 = .ok (.bipush 20, 2) := by decide +kernel
theorem dX12_rules_4 : decode cX12_rules 4 = .ok (.invokestatic 96, 3) := by decide +kernel
theorem dX12_rules_7 : decode cX12_rules 7 = .ok (.ifCond .eq 23, 3) := by decide +kernel
theorem dX12_rules_10 : decode cX12_rules 10 = .ok (.iload_n 2, 1) := by decide +kernel
theorem dX12_rules_11 : decode cX12_rules 11 = .ok (.iconst 1, 1) := by decide +kernel
theorem dX12_rules_12 : decode cX12_rules 12 = .ok (.bipush 99, 2) := by decide +kernel
theorem dX12_rules_14 : decode cX12_rules 14 = .ok (.invokestatic 96, 3) := by decide +kernel
theorem dX12_rules_17 : decode cX12_rules 17 = .ok (.ifCond .eq 13, 3) := by decide +kernel
theorem dX12_rules_20 : decode cX12_rules 20 = .ok (.iload_n 3, 1) := by decide +kernel
theorem dX12_rules_21 : decode cX12_rules 21 = .ok (.iconst 0, 1) := by decide +kernel
theorem dX12_rules_22 : decode cX12_rules 22 = .ok (.bipush 30, 2) := by decide +kernel
theorem dX12_rules_24 : decode cX12_rules 24 = .ok (.invokestatic 96, 3) := by decide +kernel
theorem dX12_rules_27 : decode cX12_rules 27 = .ok (.ifCond .ne 5, 3) := by decide +kernel
theorem dX12_rules_30 : decode cX12_rules 30 = .ok (.iconst 0, 1) := by decide +kernel
theorem dX12_rules_31 : decode cX12_rules 31 = .ok (.ireturn, 1) := by decide +kernel
theorem dX12_rules_32 : decode cX12_rules 32 = .ok (.aload_n 0, 1) := by decide +kernel
theorem dX12_rules_33 : decode cX12_rules 33 = .ok (.getfield 7, 3) := by decide +kernel
theorem dX12_rules_36 : decode cX12_rules 36 = .ok (.bipush 11, 2) := by decide +kernel
theorem dX12_rules_38 : decode cX12_rules 38 = .ok (.iload_n 1, 1) := by decide +kernel
theorem dX12_rules_39 : decode cX12_rules 39 = .ok (.iastore, 1) := by decide +kernel
theorem dX12_rules_40 : decode cX12_rules 40 = .ok (.aload_n 0, 1) := by decide +kernel
theorem dX12_rules_41 : decode cX12_rules 41 = .ok (.getfield 7, 3) := by decide +kernel
theorem dX12_rules_44 : decode cX12_rules 44 = .ok (.bipush 12, 2) := by decide +kernel
theorem dX12_rules_46 : decode cX12_rules 46 = .ok (.iload_n 2, 1) := by decide +kernel
theorem dX12_rules_47 : decode cX12_rules 47 = .ok (.iastore, 1) := by decide +kernel
theorem dX12_rules_48 : decode cX12_rules 48 = .ok (.aload_n 0, 1) := by decide +kernel
theorem dX12_rules_49 : decode cX12_rules 49 = .ok (.getfield 7, 3) := by decide +kernel
theorem dX12_rules_52 : decode cX12_rules 52 = .ok (.bipush 13, 2) := by decide +kernel
theorem dX12_rules_54 : decode cX12_rules 54 = .ok (.iload_n 3, 1) := by decide +kernel
theorem dX12_rules_55 : decode cX12_rules 55 = .ok (.iastore, 1) := by decide +kernel
theorem dX12_rules_56 : decode cX12_rules 56 = .ok (.iconst 1, 1) := by decide +kernel
theorem dX12_rules_57 : decode cX12_rules 57 = .ok (.ireturn, 1) := by decide +kernel
theorem dX12_hole_0 : decode cX12_hole 0 = .ok (.aload_n 0, 1) := by decide +kernel
theorem dX12_hole_1 : decode cX12_hole 1 = .ok (.iload_n 1, 1) := by decide +kernel
theorem dX12_hole_2 : decode cX12_hole 2 = .ok (.invokevirtual 100, 3) := by decide +kernel
theorem dX12_hole_5 : decode cX12_hole 5 = .ok (.ifCond .eq 25, 3) := by decide +kernel
theorem dX12_hole_8 : decode cX12_hole 8 = .ok (.aload_n 0, 1) := by decide +kernel
theorem dX12_hole_9 : decode cX12_hole 9 = .ok (.getfield 7, 3) := by decide +kernel
theorem dX12_hole_12 : decode cX12_hole 12 = .ok (.iconst 0, 1) := by decide +kernel
theorem dX12_hole_13 : decode cX12_hole 13 = .ok (.iaload, 1) := by decide +kernel
theorem dX12_hole_14 : decode cX12_hole 14 = .ok (.bipush 100, 2) := by decide +kernel
theorem dX12_hole_16 : decode cX12_hole 16 = .ok (.if_icmp .eq 14, 3) := by decide +kernel
theorem dX12_hole_19 : decode cX12_hole 19 = .ok (.aload_n 0, 1) := by decide +kernel
theorem dX12_hole_20 : decode cX12_hole 20 = .ok (.getfield 7, 3) := by decide +kernel
theorem dX12_hole_23 : decode cX12_hole 23 = .ok (.iconst 1, 1) := by decide +kernel
theorem dX12_hole_24 : decode cX12_hole 24 = .ok (.iaload, 1) := by decide +kernel
theorem dX12_hole_25 : decode cX12_hole 25 = .ok (.bipush 20, 2) := by decide +kernel
theorem dX12_hole_27 : decode cX12_hole 27 = .ok (.if_icmp .ne 5, 3) := by decide +kernel
theorem dX12_hole_30 : decode cX12_hole 30 = .ok (.iconst (-1), 1) := by decide +kernel
theorem dX12_hole_31 : decode cX12_hole 31 = .ok (.ireturn, 1) := by decide +kernel
theorem dX12_hole_32 : decode cX12_hole 32 = .ok (.sipush 150, 3) := by decide +kernel
theorem dX12_hole_35 : decode cX12_hole 35 = .ok (.iconst 3, 1) := by decide +kernel
theorem dX12_hole_36 : decode cX12_hole 36 = .ok (.aload_n 0, 1) := by decide +kernel
theorem dX12_hole_37 : decode cX12_hole 37 = .ok (.getfield 7, 3) := by decide +kernel
theorem dX12_hole_40 : decode cX12_hole 40 = .ok (.iconst 1, 1) := by decide +kernel
theorem dX12_hole_41 : decode cX12_hole 41 = .ok (.iaload, 1) := by decide +kernel
theorem dX12_hole_42 : decode cX12_hole 42 = .ok (.imul, 1) := by decide +kernel
theorem dX12_hole_43 : decode cX12_hole 43 = .ok (.iadd, 1) := by decide +kernel
theorem dX12_hole_44 : decode cX12_hole 44 = .ok (.istore_n 2, 1) := by decide +kernel
theorem dX12_hole_45 : decode cX12_hole 45 = .ok (.aload_n 0, 1) := by decide +kernel
theorem dX12_hole_46 : decode cX12_hole 46 = .ok (.getfield 7, 3) := by decide +kernel
theorem dX12_hole_49 : decode cX12_hole 49 = .ok (.iload_n 2, 1) := by decide +kernel
theorem dX12_hole_50 : decode cX12_hole 50 = .ok (.iload_n 1, 1) := by decide +kernel
theorem dX12_hole_51 : decode cX12_hole 51 = .ok (.iastore, 1) := by decide +kernel
theorem dX12_hole_52 : decode cX12_hole 52 = .ok (.aload_n 0, 1) := by decide +kernel
theorem dX12_hole_53 : decode cX12_hole 53 = .ok (.getfield 7, 3) := by decide +kernel
theorem dX12_hole_56 : decode cX12_hole 56 = .ok (.iload_n 2, 1) := by decide +kernel
theorem dX12_hole_57 : decode cX12_hole 57 = .ok (.iconst 1, 1) := by decide +kernel
theorem dX12_hole_58 : decode cX12_hole 58 = .ok (.iadd, 1) := by decide +kernel
theorem dX12_hole_59 : decode cX12_hole 59 = .ok (.aload_n 0, 1) := by decide +kernel
theorem dX12_hole_60 : decode cX12_hole 60 = .ok (.getfield 7, 3) := by decide +kernel
theorem dX12_hole_63 : decode cX12_hole 63 = .ok (.iconst 0, 1) := by decide +kernel
theorem dX12_hole_64 : decode cX12_hole 64 = .ok (.iaload, 1) := by decide +kernel
theorem dX12_hole_65 : decode cX12_hole 65 = .ok (.iastore, 1) := by decide +kernel
theorem dX12_hole_66 : decode cX12_hole 66 = .ok (.aload_n 0, 1) := by decide +kernel
theorem dX12_hole_67 : decode cX12_hole 67 = .ok (.getfield 7, 3) := by decide +kernel
theorem dX12_hole_70 : decode cX12_hole 70 = .ok (.iload_n 2, 1) := by decide +kernel
theorem dX12_hole_71 : decode cX12_hole 71 = .ok (.iconst 2, 1) := by decide +kernel
theorem dX12_hole_72 : decode cX12_hole 72 = .ok (.iadd, 1) := by decide +kernel
theorem dX12_hole_73 : decode cX12_hole 73 = .ok (.iconst (-1), 1) := by decide +kernel
theorem dX12_hole_74 : decode cX12_hole 74 = .ok (.iastore, 1) := by decide +kernel
theorem dX12_hole_75 : decode cX12_hole 75 = .ok (.aload_n 0, 1) := by decide +kernel
theorem dX12_hole_76 : decode cX12_hole 76 = .ok (.getfield 7, 3) := by decide +kernel
theorem dX12_hole_79 : decode cX12_hole 79 = .ok (.iconst 1, 1) := by decide +kernel
theorem dX12_hole_80 : decode cX12_hole 80 = .ok (.dup2, 1) := by decide +kernel
theorem dX12_hole_81 : decode cX12_hole 81 = .ok (.iaload, 1) := by decide +kernel
theorem dX12_hole_82 : decode cX12_hole 82 = .ok (.iconst 1, 1) := by decide +kernel
theorem dX12_hole_83 : decode cX12_hole 83 = .ok (.iadd, 1) := by decide +kernel
theorem dX12_hole_84 : decode cX12_hole 84 = .ok (.iastore, 1) := by decide +kernel
theorem dX12_hole_85 : decode cX12_hole 85 = .ok (.aload_n 0, 1) := by decide +kernel
theorem dX12_hole_86 : decode cX12_hole 86 = .ok (.getfield 7, 3) := by decide +kernel
theorem dX12_hole_89 : decode cX12_hole 89 = .ok (.iconst 1, 1) := by decide +kernel
theorem dX12_hole_90 : decode cX12_hole 90 = .ok (.iaload, 1) := by decide +kernel
theorem dX12_hole_91 : decode cX12_hole 91 = .ok (.iconst 1, 1) := by decide +kernel
theorem dX12_hole_92 : decode cX12_hole 92 = .ok (.isub, 1) := by decide +kernel
theorem dX12_hole_93 : decode cX12_hole 93 = .ok (.ireturn, 1) := by decide +kernel
theorem dX12_isHole_0 : decode cX12_isHole 0 = .ok (.iload_n 1, 1) := by decide +kernel
theorem dX12_isHole_1 : decode cX12_isHole 1 = .ok (.iconst 0, 1) := by decide +kernel
theorem dX12_isHole_2 : decode cX12_isHole 2 = .ok (.aload_n 0, 1) := by decide +kernel
theorem dX12_isHole_3 : decode cX12_isHole 3 = .ok (.getfield 7, 3) := by decide +kernel
theorem dX12_isHole_6 : decode cX12_isHole 6 = .ok (.iconst 1, 1) := by decide +kernel
theorem dX12_isHole_7 : decode cX12_isHole 7 = .ok (.iaload, 1) := by decide +kernel
theorem dX12_isHole_8 : decode cX12_isHole 8 = .ok (.iconst 1, 1) := by decide +kernel
theorem dX12_isHole_9 : decode cX12_isHole 9 = .ok (.isub, 1) := by decide +kernel
theorem dX12_isHole_10 : decode cX12_isHole 10 = .ok (.invokestatic 96, 3) := by decide +kernel
theorem dX12_isHole_13 : decode cX12_isHole 13 = .ok (.ireturn, 1) := by decide +kernel
theorem dX12_plug_0 : decode cX12_plug 0 = .ok (.aload_n 0, 1) := by decide +kernel
theorem dX12_plug_1 : decode cX12_plug 1 = .ok (.iload_n 1, 1) := by decide +kernel
theorem dX12_plug_2 : decode cX12_plug 2 = .ok (.invokevirtual 104, 3) := by decide +kernel
theorem dX12_plug_5 : decode cX12_plug 5 = .ok (.ifCond .eq 20, 3) := by decide +kernel
theorem dX12_plug_8 : decode cX12_plug 8 = .ok (.aload_n 0, 1) := by decide +kernel
theorem dX12_plug_9 : decode cX12_plug 9 = .ok (.getfield 7, 3) := by decide +kernel
theorem dX12_plug_12 : decode cX12_plug 12 = .ok (.sipush 150, 3) := by decide +kernel
theorem dX12_plug_15 : decode cX12_plug 15 = .ok (.iconst 3, 1) := by decide +kernel
theorem dX12_plug_16 : decode cX12_plug 16 = .ok (.iload_n 1, 1) := by decide +kernel
theorem dX12_plug_17 : decode cX12_plug 17 = .ok (.imul, 1) := by decide +kernel
theorem dX12_plug_18 : decode cX12_plug 18 = .ok (.iadd, 1) := by decide +kernel
theorem dX12_plug_19 : decode cX12_plug 19 = .ok (.iconst 2, 1) := by decide +kernel
theorem dX12_plug_20 : decode cX12_plug 20 = .ok (.iadd, 1) := by decide +kernel
theorem dX12_plug_21 : decode cX12_plug 21 = .ok (.iaload, 1) := by decide +kernel
theorem dX12_plug_22 : decode cX12_plug 22 = .ok (.ifCond .lt 5, 3) := by decide +kernel
theorem dX12_plug_25 : decode cX12_plug 25 = .ok (.iconst 0, 1) := by decide +kernel
theorem dX12_plug_26 : decode cX12_plug 26 = .ok (.ireturn, 1) := by decide +kernel
theorem dX12_plug_27 : decode cX12_plug 27 = .ok (.aload_n 0, 1) := by decide +kernel
theorem dX12_plug_28 : decode cX12_plug 28 = .ok (.getfield 7, 3) := by decide +kernel
theorem dX12_plug_31 : decode cX12_plug 31 = .ok (.sipush 150, 3) := by decide +kernel
theorem dX12_plug_34 : decode cX12_plug 34 = .ok (.iconst 3, 1) := by decide +kernel
theorem dX12_plug_35 : decode cX12_plug 35 = .ok (.iload_n 1, 1) := by decide +kernel
theorem dX12_plug_36 : decode cX12_plug 36 = .ok (.imul, 1) := by decide +kernel
theorem dX12_plug_37 : decode cX12_plug 37 = .ok (.iadd, 1) := by decide +kernel
theorem dX12_plug_38 : decode cX12_plug 38 = .ok (.iconst 2, 1) := by decide +kernel
theorem dX12_plug_39 : decode cX12_plug 39 = .ok (.iadd, 1) := by decide +kernel
theorem dX12_plug_40 : decode cX12_plug 40 = .ok (.aload_n 0, 1) := by decide +kernel
theorem dX12_plug_41 : decode cX12_plug 41 = .ok (.getfield 7, 3) := by decide +kernel
theorem dX12_plug_44 : decode cX12_plug 44 = .ok (.iconst 0, 1) := by decide +kernel
theorem dX12_plug_45 : decode cX12_plug 45 = .ok (.iaload, 1) := by decide +kernel
theorem dX12_plug_46 : decode cX12_plug 46 = .ok (.iastore, 1) := by decide +kernel
theorem dX12_plug_47 : decode cX12_plug 47 = .ok (.iconst 1, 1) := by decide +kernel
theorem dX12_plug_48 : decode cX12_plug 48 = .ok (.ireturn, 1) := by decide +kernel
theorem dX12_fillOf_0 : decode cX12_fillOf 0 = .ok (.iconst 0, 1) := by decide +kernel
theorem dX12_fillOf_1 : decode cX12_fillOf 1 = .ok (.istore_n 2, 1) := by decide +kernel
theorem dX12_fillOf_2 : decode cX12_fillOf 2 = .ok (.iconst 0, 1) := by decide +kernel
theorem dX12_fillOf_3 : decode cX12_fillOf 3 = .ok (.istore_n 3, 1) := by decide +kernel
theorem dX12_fillOf_4 : decode cX12_fillOf 4 = .ok (.iload_n 3, 1) := by decide +kernel
theorem dX12_fillOf_5 : decode cX12_fillOf 5 = .ok (.bipush 100, 2) := by decide +kernel
theorem dX12_fillOf_7 : decode cX12_fillOf 7 = .ok (.if_icmp .ge 27, 3) := by decide +kernel
theorem dX12_fillOf_10 : decode cX12_fillOf 10 = .ok (.iload_n 2, 1) := by decide +kernel
theorem dX12_fillOf_11 : decode cX12_fillOf 11 = .ok (.aload_n 0, 1) := by decide +kernel
theorem dX12_fillOf_12 : decode cX12_fillOf 12 = .ok (.getfield 7, 3) := by decide +kernel
theorem dX12_fillOf_15 : decode cX12_fillOf 15 = .ok (.sipush 1620, 3) := by decide +kernel
theorem dX12_fillOf_18 : decode cX12_fillOf 18 = .ok (.bipush 64, 2) := by decide +kernel
theorem dX12_fillOf_20 : decode cX12_fillOf 20 = .ok (.iload_n 3, 1) := by decide +kernel
theorem dX12_fillOf_21 : decode cX12_fillOf 21 = .ok (.imul, 1) := by decide +kernel
theorem dX12_fillOf_22 : decode cX12_fillOf 22 = .ok (.iadd, 1) := by decide +kernel
theorem dX12_fillOf_23 : decode cX12_fillOf 23 = .ok (.iload_n 1, 1) := by decide +kernel
theorem dX12_fillOf_24 : decode cX12_fillOf 24 = .ok (.iadd, 1) := by decide +kernel
theorem dX12_fillOf_25 : decode cX12_fillOf 25 = .ok (.iaload, 1) := by decide +kernel
theorem dX12_fillOf_26 : decode cX12_fillOf 26 = .ok (.iadd, 1) := by decide +kernel
theorem dX12_fillOf_27 : decode cX12_fillOf 27 = .ok (.istore_n 2, 1) := by decide +kernel
theorem dX12_fillOf_28 : decode cX12_fillOf 28 = .ok (.iinc 3 1, 3) := by decide +kernel
theorem dX12_fillOf_31 : decode cX12_fillOf 31 = .ok (.goto (-27), 3) := by decide +kernel
theorem dX12_fillOf_34 : decode cX12_fillOf 34 = .ok (.iload_n 2, 1) := by decide +kernel
theorem dX12_fillOf_35 : decode cX12_fillOf 35 = .ok (.ireturn, 1) := by decide +kernel
theorem dX12_pour_0 : decode cX12_pour 0 = .ok (.aload_n 0, 1) := by decide +kernel
theorem dX12_pour_1 : decode cX12_pour 1 = .ok (.iload_n 1, 1) := by decide +kernel
theorem dX12_pour_2 : decode cX12_pour 2 = .ok (.invokevirtual 100, 3) := by decide +kernel
theorem dX12_pour_5 : decode cX12_pour 5 = .ok (.ifCond .eq 50, 3) := by decide +kernel
theorem dX12_pour_8 : decode cX12_pour 8 = .ok (.aload_n 0, 1) := by decide +kernel
theorem dX12_pour_9 : decode cX12_pour 9 = .ok (.getfield 7, 3) := by decide +kernel
theorem dX12_pour_12 : decode cX12_pour 12 = .ok (.bipush 20, 2) := by decide +kernel
theorem dX12_pour_14 : decode cX12_pour 14 = .ok (.iload_n 1, 1) := by decide +kernel
theorem dX12_pour_15 : decode cX12_pour 15 = .ok (.iadd, 1) := by decide +kernel
theorem dX12_pour_16 : decode cX12_pour 16 = .ok (.iaload, 1) := by decide +kernel
theorem dX12_pour_17 : decode cX12_pour 17 = .ok (.iconst 3, 1) := by decide +kernel
theorem dX12_pour_18 : decode cX12_pour 18 = .ok (.if_icmp .ne 37, 3) := by decide +kernel
theorem dX12_pour_21 : decode cX12_pour 21 = .ok (.iload_n 2, 1) := by decide +kernel
theorem dX12_pour_22 : decode cX12_pour 22 = .ok (.iconst 1, 1) := by decide +kernel
theorem dX12_pour_23 : decode cX12_pour 23 = .ok (.sipush 1000, 3) := by decide +kernel
theorem dX12_pour_26 : decode cX12_pour 26 = .ok (.invokestatic 96, 3) := by decide +kernel
theorem dX12_pour_29 : decode cX12_pour 29 = .ok (.ifCond .eq 26, 3) := by decide +kernel
theorem dX12_pour_32 : decode cX12_pour 32 = .ok (.aload_n 0, 1) := by decide +kernel
theorem dX12_pour_33 : decode cX12_pour 33 = .ok (.getfield 7, 3) := by decide +kernel
theorem dX12_pour_36 : decode cX12_pour 36 = .ok (.iconst 0, 1) := by decide +kernel
theorem dX12_pour_37 : decode cX12_pour 37 = .ok (.iaload, 1) := by decide +kernel
theorem dX12_pour_38 : decode cX12_pour 38 = .ok (.bipush 100, 2) := by decide +kernel
theorem dX12_pour_40 : decode cX12_pour 40 = .ok (.if_icmp .eq 15, 3) := by decide +kernel
theorem dX12_pour_43 : decode cX12_pour 43 = .ok (.aload_n 0, 1) := by decide +kernel
theorem dX12_pour_44 : decode cX12_pour 44 = .ok (.getfield 7, 3) := by decide +kernel
theorem dX12_pour_47 : decode cX12_pour 47 = .ok (.bipush 15, 2) := by decide +kernel
theorem dX12_pour_49 : decode cX12_pour 49 = .ok (.iaload, 1) := by decide +kernel
theorem dX12_pour_50 : decode cX12_pour 50 = .ok (.bipush 40, 2) := by decide +kernel
theorem dX12_pour_52 : decode cX12_pour 52 = .ok (.if_icmp .ne 5, 3) := by decide +kernel
theorem dX12_pour_55 : decode cX12_pour 55 = .ok (.iconst (-1), 1) := by decide +kernel
theorem dX12_pour_56 : decode cX12_pour 56 = .ok (.ireturn, 1) := by decide +kernel
theorem dX12_pour_57 : decode cX12_pour 57 = .ok (.aload_n 0, 1) := by decide +kernel
theorem dX12_pour_58 : decode cX12_pour 58 = .ok (.getfield 7, 3) := by decide +kernel
theorem dX12_pour_61 : decode cX12_pour 61 = .ok (.bipush 15, 2) := by decide +kernel
theorem dX12_pour_63 : decode cX12_pour 63 = .ok (.dup2, 1) := by decide +kernel
theorem dX12_pour_64 : decode cX12_pour 64 = .ok (.iaload, 1) := by decide +kernel
theorem dX12_pour_65 : decode cX12_pour 65 = .ok (.iconst 1, 1) := by decide +kernel
theorem dX12_pour_66 : decode cX12_pour 66 = .ok (.iadd, 1) := by decide +kernel
theorem dX12_pour_67 : decode cX12_pour 67 = .ok (.iastore, 1) := by decide +kernel
theorem dX12_pour_68 : decode cX12_pour 68 = .ok (.iconst 0, 1) := by decide +kernel
theorem dX12_pour_69 : decode cX12_pour 69 = .ok (.istore_n 3, 1) := by decide +kernel
theorem dX12_pour_70 : decode cX12_pour 70 = .ok (.iload_n 3, 1) := by decide +kernel
theorem dX12_pour_71 : decode cX12_pour 71 = .ok (.bipush 64, 2) := by decide +kernel
theorem dX12_pour_73 : decode cX12_pour 73 = .ok (.if_icmp .ge 16, 3) := by decide +kernel
theorem dX12_pour_76 : decode cX12_pour 76 = .ok (.aload_n 0, 1) := by decide +kernel
theorem dX12_pour_77 : decode cX12_pour 77 = .ok (.getfield 19, 3) := by decide +kernel
theorem dX12_pour_80 : decode cX12_pour 80 = .ok (.iload_n 3, 1) := by decide +kernel
theorem dX12_pour_81 : decode cX12_pour 81 = .ok (.iconst (-1), 1) := by decide +kernel
theorem dX12_pour_82 : decode cX12_pour 82 = .ok (.iastore, 1) := by decide +kernel
theorem dX12_pour_83 : decode cX12_pour 83 = .ok (.iinc 3 1, 3) := by decide +kernel
theorem dX12_pour_86 : decode cX12_pour 86 = .ok (.goto (-16), 3) := by decide +kernel
theorem dX12_pour_89 : decode cX12_pour 89 = .ok (.aload_n 0, 1) := by decide +kernel
theorem dX12_pour_90 : decode cX12_pour 90 = .ok (.getfield 19, 3) := by decide +kernel
theorem dX12_pour_93 : decode cX12_pour 93 = .ok (.iload_n 1, 1) := by decide +kernel
theorem dX12_pour_94 : decode cX12_pour 94 = .ok (.iconst 0, 1) := by decide +kernel
theorem dX12_pour_95 : decode cX12_pour 95 = .ok (.iastore, 1) := by decide +kernel
theorem dX12_pour_96 : decode cX12_pour 96 = .ok (.iload_n 2, 1) := by decide +kernel
theorem dX12_pour_97 : decode cX12_pour 97 = .ok (.istore_n 3, 1) := by decide +kernel
theorem dX12_pour_98 : decode cX12_pour 98 = .ok (.iconst 0, 1) := by decide +kernel
theorem dX12_pour_99 : decode cX12_pour 99 = .ok (.istore 4, 2) := by decide +kernel
theorem dX12_pour_101 : decode cX12_pour 101 = .ok (.iload 4, 2) := by decide +kernel
theorem dX12_pour_103 : decode cX12_pour 103 = .ok (.bipush 64, 2) := by decide +kernel
theorem dX12_pour_105 : decode cX12_pour 105 = .ok (.if_icmp .ge 168, 3) := by decide +kernel
theorem dX12_pour_108 : decode cX12_pour 108 = .ok (.iconst 0, 1) := by decide +kernel
theorem dX12_pour_109 : decode cX12_pour 109 = .ok (.istore 5, 2) := by decide +kernel
theorem dX12_pour_111 : decode cX12_pour 111 = .ok (.iload 5, 2) := by decide +kernel
theorem dX12_pour_113 : decode cX12_pour 113 = .ok (.aload_n 0, 1) := by decide +kernel
theorem dX12_pour_114 : decode cX12_pour 114 = .ok (.getfield 86, 3) := by decide +kernel
theorem dX12_pour_117 : decode cX12_pour 117 = .ok (.aload_n 0, 1) := by decide +kernel
theorem dX12_pour_118 : decode cX12_pour 118 = .ok (.getfield 89, 3) := by decide +kernel
theorem dX12_pour_121 : decode cX12_pour 121 = .ok (.imul, 1) := by decide +kernel
theorem dX12_pour_122 : decode cX12_pour 122 = .ok (.if_icmp .ge 145, 3) := by decide +kernel
theorem dX12_pour_125 : decode cX12_pour 125 = .ok (.aload_n 0, 1) := by decide +kernel
theorem dX12_pour_126 : decode cX12_pour 126 = .ok (.getfield 19, 3) := by decide +kernel
theorem dX12_pour_129 : decode cX12_pour 129 = .ok (.iload 5, 2) := by decide +kernel
theorem dX12_pour_131 : decode cX12_pour 131 = .ok (.iaload, 1) := by decide +kernel
theorem dX12_pour_132 : decode cX12_pour 132 = .ok (.iload 4, 2) := by decide +kernel
theorem dX12_pour_134 : decode cX12_pour 134 = .ok (.if_icmp .eq 6, 3) := by decide +kernel
theorem dX12_pour_137 : decode cX12_pour 137 = .ok (.goto 124, 3) := by decide +kernel
theorem dX12_pour_140 : decode cX12_pour 140 = .ok (.bipush 20, 2) := by decide +kernel
theorem dX12_pour_142 : decode cX12_pour 142 = .ok (.aload_n 0, 1) := by decide +kernel
theorem dX12_pour_143 : decode cX12_pour 143 = .ok (.iload 5, 2) := by decide +kernel
theorem dX12_pour_145 : decode cX12_pour 145 = .ok (.invokevirtual 107, 3) := by decide +kernel
theorem dX12_pour_148 : decode cX12_pour 148 = .ok (.isub, 1) := by decide +kernel
theorem dX12_pour_149 : decode cX12_pour 149 = .ok (.istore 6, 2) := by decide +kernel
theorem dX12_pour_151 : decode cX12_pour 151 = .ok (.iload_n 3, 1) := by decide +kernel
theorem dX12_pour_152 : decode cX12_pour 152 = .ok (.iload 6, 2) := by decide +kernel
theorem dX12_pour_154 : decode cX12_pour 154 = .ok (.if_icmp .ge 7, 3) := by decide +kernel
theorem dX12_pour_157 : decode cX12_pour 157 = .ok (.iload_n 3, 1) := by decide +kernel
theorem dX12_pour_158 : decode cX12_pour 158 = .ok (.goto 5, 3) := by decide +kernel
theorem dX12_pour_161 : decode cX12_pour 161 = .ok (.iload 6, 2) := by decide +kernel
theorem dX12_pour_163 : decode cX12_pour 163 = .ok (.istore 7, 2) := by decide +kernel
theorem dX12_pour_165 : decode cX12_pour 165 = .ok (.aload_n 0, 1) := by decide +kernel
theorem dX12_pour_166 : decode cX12_pour 166 = .ok (.getfield 7, 3) := by decide +kernel
theorem dX12_pour_169 : decode cX12_pour 169 = .ok (.sipush 1620, 3) := by decide +kernel
theorem dX12_pour_172 : decode cX12_pour 172 = .ok (.bipush 64, 2) := by decide +kernel
theorem dX12_pour_174 : decode cX12_pour 174 = .ok (.aload_n 0, 1) := by decide +kernel
theorem dX12_pour_175 : decode cX12_pour 175 = .ok (.getfield 7, 3) := by decide +kernel
theorem dX12_pour_178 : decode cX12_pour 178 = .ok (.iconst 0, 1) := by decide +kernel
theorem dX12_pour_179 : decode cX12_pour 179 = .ok (.iaload, 1) := by decide +kernel
theorem dX12_pour_180 : decode cX12_pour 180 = .ok (.imul, 1) := by decide +kernel
theorem dX12_pour_181 : decode cX12_pour 181 = .ok (.iadd, 1) := by decide +kernel
theorem dX12_pour_182 : decode cX12_pour 182 = .ok (.iload 5, 2) := by decide +kernel
theorem dX12_pour_184 : decode cX12_pour 184 = .ok (.iadd, 1) := by decide +kernel
theorem dX12_pour_185 : decode cX12_pour 185 = .ok (.dup2, 1) := by decide +kernel
theorem dX12_pour_186 : decode cX12_pour 186 = .ok (.iaload, 1) := by decide +kernel
theorem dX12_pour_187 : decode cX12_pour 187 = .ok (.iload 7, 2) := by decide +kernel
theorem dX12_pour_189 : decode cX12_pour 189 = .ok (.iadd, 1) := by decide +kernel
theorem dX12_pour_190 : decode cX12_pour 190 = .ok (.iastore, 1) := by decide +kernel
theorem dX12_pour_191 : decode cX12_pour 191 = .ok (.iload_n 3, 1) := by decide +kernel
theorem dX12_pour_192 : decode cX12_pour 192 = .ok (.iload 7, 2) := by decide +kernel
theorem dX12_pour_194 : decode cX12_pour 194 = .ok (.isub, 1) := by decide +kernel
theorem dX12_pour_195 : decode cX12_pour 195 = .ok (.istore_n 3, 1) := by decide +kernel
theorem dX12_pour_196 : decode cX12_pour 196 = .ok (.iconst 0, 1) := by decide +kernel
theorem dX12_pour_197 : decode cX12_pour 197 = .ok (.istore 8, 2) := by decide +kernel
theorem dX12_pour_199 : decode cX12_pour 199 = .ok (.iload 8, 2) := by decide +kernel
theorem dX12_pour_201 : decode cX12_pour 201 = .ok (.iconst 4, 1) := by decide +kernel
theorem dX12_pour_202 : decode cX12_pour 202 = .ok (.if_icmp .ge 59, 3) := by decide +kernel
theorem dX12_pour_205 : decode cX12_pour 205 = .ok (.aload_n 0, 1) := by decide +kernel
theorem dX12_pour_206 : decode cX12_pour 206 = .ok (.iload 5, 2) := by decide +kernel
theorem dX12_pour_208 : decode cX12_pour 208 = .ok (.iload 8, 2) := by decide +kernel
theorem dX12_pour_210 : decode cX12_pour 210 = .ok (.invokevirtual 111, 3) := by decide +kernel
theorem dX12_pour_213 : decode cX12_pour 213 = .ok (.istore 9, 2) := by decide +kernel
theorem dX12_pour_215 : decode cX12_pour 215 = .ok (.iload 9, 2) := by decide +kernel
theorem dX12_pour_217 : decode cX12_pour 217 = .ok (.ifCond .lt 38, 3) := by decide +kernel
theorem dX12_pour_220 : decode cX12_pour 220 = .ok (.aload_n 0, 1) := by decide +kernel
theorem dX12_pour_221 : decode cX12_pour 221 = .ok (.getfield 7, 3) := by decide +kernel
theorem dX12_pour_224 : decode cX12_pour 224 = .ok (.bipush 20, 2) := by decide +kernel
theorem dX12_pour_226 : decode cX12_pour 226 = .ok (.iload 9, 2) := by decide +kernel
theorem dX12_pour_228 : decode cX12_pour 228 = .ok (.iadd, 1) := by decide +kernel
theorem dX12_pour_229 : decode cX12_pour 229 = .ok (.iaload, 1) := by decide +kernel
theorem dX12_pour_230 : decode cX12_pour 230 = .ok (.iconst 3, 1) := by decide +kernel
theorem dX12_pour_231 : decode cX12_pour 231 = .ok (.if_icmp .ne 24, 3) := by decide +kernel
theorem dX12_pour_234 : decode cX12_pour 234 = .ok (.aload_n 0, 1) := by decide +kernel
theorem dX12_pour_235 : decode cX12_pour 235 = .ok (.getfield 19, 3) := by decide +kernel
theorem dX12_pour_238 : decode cX12_pour 238 = .ok (.iload 9, 2) := by decide +kernel
theorem dX12_pour_240 : decode cX12_pour 240 = .ok (.iaload, 1) := by decide +kernel
theorem dX12_pour_241 : decode cX12_pour 241 = .ok (.ifCond .ge 14, 3) := by decide +kernel
theorem dX12_pour_244 : decode cX12_pour 244 = .ok (.aload_n 0, 1) := by decide +kernel
theorem dX12_pour_245 : decode cX12_pour 245 = .ok (.getfield 19, 3) := by decide +kernel
theorem dX12_pour_248 : decode cX12_pour 248 = .ok (.iload 9, 2) := by decide +kernel
theorem dX12_pour_250 : decode cX12_pour 250 = .ok (.iload 4, 2) := by decide +kernel
theorem dX12_pour_252 : decode cX12_pour 252 = .ok (.iconst 1, 1) := by decide +kernel
theorem dX12_pour_253 : decode cX12_pour 253 = .ok (.iadd, 1) := by decide +kernel
theorem dX12_pour_254 : decode cX12_pour 254 = .ok (.iastore, 1) := by decide +kernel
theorem dX12_pour_255 : decode cX12_pour 255 = .ok (.iinc 8 1, 3) := by decide +kernel
theorem dX12_pour_258 : decode cX12_pour 258 = .ok (.goto (-59), 3) := by decide +kernel
theorem dX12_pour_261 : decode cX12_pour 261 = .ok (.iinc 5 1, 3) := by decide +kernel
theorem dX12_pour_264 : decode cX12_pour 264 = .ok (.goto (-153), 3) := by decide +kernel
theorem dX12_pour_267 : decode cX12_pour 267 = .ok (.iinc 4 1, 3) := by decide +kernel
theorem dX12_pour_270 : decode cX12_pour 270 = .ok (.goto (-169), 3) := by decide +kernel
theorem dX12_pour_273 : decode cX12_pour 273 = .ok (.iload_n 3, 1) := by decide +kernel
theorem dX12_pour_274 : decode cX12_pour 274 = .ok (.ireturn, 1) := by decide +kernel
theorem dX12_fill_0 : decode cX12_fill 0 = .ok (.aload_n 0, 1) := by decide +kernel
theorem dX12_fill_1 : decode cX12_fill 1 = .ok (.iload_n 1, 1) := by decide +kernel
theorem dX12_fill_2 : decode cX12_fill 2 = .ok (.invokevirtual 100, 3) := by decide +kernel
theorem dX12_fill_5 : decode cX12_fill 5 = .ok (.ifCond .eq 11, 3) := by decide +kernel
theorem dX12_fill_8 : decode cX12_fill 8 = .ok (.aload_n 0, 1) := by decide +kernel
theorem dX12_fill_9 : decode cX12_fill 9 = .ok (.iload_n 1, 1) := by decide +kernel
theorem dX12_fill_10 : decode cX12_fill 10 = .ok (.invokevirtual 107, 3) := by decide +kernel
theorem dX12_fill_13 : decode cX12_fill 13 = .ok (.goto 4, 3) := by decide +kernel
theorem dX12_fill_16 : decode cX12_fill 16 = .ok (.iconst (-1), 1) := by decide +kernel
theorem dX12_fill_17 : decode cX12_fill 17 = .ok (.ireturn, 1) := by decide +kernel
theorem dX12_trench_0 : decode cX12_trench 0 = .ok (.aload_n 0, 1) := by decide +kernel
theorem dX12_trench_1 : decode cX12_trench 1 = .ok (.iload_n 1, 1) := by decide +kernel
theorem dX12_trench_2 : decode cX12_trench 2 = .ok (.invokevirtual 100, 3) := by decide +kernel
theorem dX12_trench_5 : decode cX12_trench 5 = .ok (.ifCond .eq 55, 3) := by decide +kernel
theorem dX12_trench_8 : decode cX12_trench 8 = .ok (.iload_n 2, 1) := by decide +kernel
theorem dX12_trench_9 : decode cX12_trench 9 = .ok (.iconst 0, 1) := by decide +kernel
theorem dX12_trench_10 : decode cX12_trench 10 = .ok (.iconst 3, 1) := by decide +kernel
theorem dX12_trench_11 : decode cX12_trench 11 = .ok (.invokestatic 96, 3) := by decide +kernel
theorem dX12_trench_14 : decode cX12_trench 14 = .ok (.ifCond .eq 46, 3) := by decide +kernel
theorem dX12_trench_17 : decode cX12_trench 17 = .ok (.iload_n 3, 1) := by decide +kernel
theorem dX12_trench_18 : decode cX12_trench 18 = .ok (.iconst 1, 1) := by decide +kernel
theorem dX12_trench_19 : decode cX12_trench 19 = .ok (.bipush 8, 2) := by decide +kernel
theorem dX12_trench_21 : decode cX12_trench 21 = .ok (.invokestatic 96, 3) := by decide +kernel
theorem dX12_trench_24 : decode cX12_trench 24 = .ok (.ifCond .eq 36, 3) := by decide +kernel
theorem dX12_trench_27 : decode cX12_trench 27 = .ok (.iload 4, 2) := by decide +kernel
theorem dX12_trench_29 : decode cX12_trench 29 = .ok (.iconst 1, 1) := by decide +kernel
theorem dX12_trench_30 : decode cX12_trench 30 = .ok (.bipush 8, 2) := by decide +kernel
theorem dX12_trench_32 : decode cX12_trench 32 = .ok (.invokestatic 96, 3) := by decide +kernel
theorem dX12_trench_35 : decode cX12_trench 35 = .ok (.ifCond .eq 25, 3) := by decide +kernel
theorem dX12_trench_38 : decode cX12_trench 38 = .ok (.aload_n 0, 1) := by decide +kernel
theorem dX12_trench_39 : decode cX12_trench 39 = .ok (.getfield 7, 3) := by decide +kernel
theorem dX12_trench_42 : decode cX12_trench 42 = .ok (.iconst 0, 1) := by decide +kernel
theorem dX12_trench_43 : decode cX12_trench 43 = .ok (.iaload, 1) := by decide +kernel
theorem dX12_trench_44 : decode cX12_trench 44 = .ok (.bipush 100, 2) := by decide +kernel
theorem dX12_trench_46 : decode cX12_trench 46 = .ok (.if_icmp .eq 14, 3) := by decide +kernel
theorem dX12_trench_49 : decode cX12_trench 49 = .ok (.aload_n 0, 1) := by decide +kernel
theorem dX12_trench_50 : decode cX12_trench 50 = .ok (.getfield 7, 3) := by decide +kernel
theorem dX12_trench_53 : decode cX12_trench 53 = .ok (.iconst 2, 1) := by decide +kernel
theorem dX12_trench_54 : decode cX12_trench 54 = .ok (.iaload, 1) := by decide +kernel
theorem dX12_trench_55 : decode cX12_trench 55 = .ok (.bipush 10, 2) := by decide +kernel
theorem dX12_trench_57 : decode cX12_trench 57 = .ok (.if_icmp .ne 5, 3) := by decide +kernel
theorem dX12_trench_60 : decode cX12_trench 60 = .ok (.iconst (-1), 1) := by decide +kernel
theorem dX12_trench_61 : decode cX12_trench 61 = .ok (.ireturn, 1) := by decide +kernel
theorem dX12_trench_62 : decode cX12_trench 62 = .ok (.iload_n 1, 1) := by decide +kernel
theorem dX12_trench_63 : decode cX12_trench 63 = .ok (.istore 5, 2) := by decide +kernel
theorem dX12_trench_65 : decode cX12_trench 65 = .ok (.iconst 1, 1) := by decide +kernel
theorem dX12_trench_66 : decode cX12_trench 66 = .ok (.istore 6, 2) := by decide +kernel
theorem dX12_trench_68 : decode cX12_trench 68 = .ok (.iload 6, 2) := by decide +kernel
theorem dX12_trench_70 : decode cX12_trench 70 = .ok (.iload_n 3, 1) := by decide +kernel
theorem dX12_trench_71 : decode cX12_trench 71 = .ok (.if_icmp .ge 25, 3) := by decide +kernel
theorem dX12_trench_74 : decode cX12_trench 74 = .ok (.aload_n 0, 1) := by decide +kernel
theorem dX12_trench_75 : decode cX12_trench 75 = .ok (.iload 5, 2) := by decide +kernel
theorem dX12_trench_77 : decode cX12_trench 77 = .ok (.iload_n 2, 1) := by decide +kernel
theorem dX12_trench_78 : decode cX12_trench 78 = .ok (.invokevirtual 111, 3) := by decide +kernel
theorem dX12_trench_81 : decode cX12_trench 81 = .ok (.istore 5, 2) := by decide +kernel
theorem dX12_trench_83 : decode cX12_trench 83 = .ok (.iload 5, 2) := by decide +kernel
theorem dX12_trench_85 : decode cX12_trench 85 = .ok (.ifCond .ge 5, 3) := by decide +kernel
theorem dX12_trench_88 : decode cX12_trench 88 = .ok (.iconst (-1), 1) := by decide +kernel
theorem dX12_trench_89 : decode cX12_trench 89 = .ok (.ireturn, 1) := by decide +kernel
theorem dX12_trench_90 : decode cX12_trench 90 = .ok (.iinc 6 1, 3) := by decide +kernel
theorem dX12_trench_93 : decode cX12_trench 93 = .ok (.goto (-25), 3) := by decide +kernel
theorem dX12_trench_96 : decode cX12_trench 96 = .ok (.sipush 210, 3) := by decide +kernel
theorem dX12_trench_99 : decode cX12_trench 99 = .ok (.iconst 5, 1) := by decide +kernel
theorem dX12_trench_100 : decode cX12_trench 100 = .ok (.aload_n 0, 1) := by decide +kernel
theorem dX12_trench_101 : decode cX12_trench 101 = .ok (.getfield 7, 3) := by decide +kernel
theorem dX12_trench_104 : decode cX12_trench 104 = .ok (.iconst 2, 1) := by decide +kernel
theorem dX12_trench_105 : decode cX12_trench 105 = .ok (.iaload, 1) := by decide +kernel
theorem dX12_trench_106 : decode cX12_trench 106 = .ok (.imul, 1) := by decide +kernel
theorem dX12_trench_107 : decode cX12_trench 107 = .ok (.iadd, 1) := by decide +kernel
theorem dX12_trench_108 : decode cX12_trench 108 = .ok (.istore 6, 2) := by decide +kernel
theorem dX12_trench_110 : decode cX12_trench 110 = .ok (.aload_n 0, 1) := by decide +kernel
theorem dX12_trench_111 : decode cX12_trench 111 = .ok (.getfield 7, 3) := by decide +kernel
theorem dX12_trench_114 : decode cX12_trench 114 = .ok (.iload 6, 2) := by decide +kernel
theorem dX12_trench_116 : decode cX12_trench 116 = .ok (.iload_n 1, 1) := by decide +kernel
theorem dX12_trench_117 : decode cX12_trench 117 = .ok (.iastore, 1) := by decide +kernel
theorem dX12_trench_118 : decode cX12_trench 118 = .ok (.aload_n 0, 1) := by decide +kernel
theorem dX12_trench_119 : decode cX12_trench 119 = .ok (.getfield 7, 3) := by decide +kernel
theorem dX12_trench_122 : decode cX12_trench 122 = .ok (.iload 6, 2) := by decide +kernel
theorem dX12_trench_124 : decode cX12_trench 124 = .ok (.iconst 1, 1) := by decide +kernel
theorem dX12_trench_125 : decode cX12_trench 125 = .ok (.iadd, 1) := by decide +kernel
theorem dX12_trench_126 : decode cX12_trench 126 = .ok (.iload_n 2, 1) := by decide +kernel
theorem dX12_trench_127 : decode cX12_trench 127 = .ok (.iastore, 1) := by decide +kernel
theorem dX12_trench_128 : decode cX12_trench 128 = .ok (.aload_n 0, 1) := by decide +kernel
theorem dX12_trench_129 : decode cX12_trench 129 = .ok (.getfield 7, 3) := by decide +kernel
theorem dX12_trench_132 : decode cX12_trench 132 = .ok (.iload 6, 2) := by decide +kernel
theorem dX12_trench_134 : decode cX12_trench 134 = .ok (.iconst 2, 1) := by decide +kernel
theorem dX12_trench_135 : decode cX12_trench 135 = .ok (.iadd, 1) := by decide +kernel
theorem dX12_trench_136 : decode cX12_trench 136 = .ok (.iload_n 3, 1) := by decide +kernel
theorem dX12_trench_137 : decode cX12_trench 137 = .ok (.iastore, 1) := by decide +kernel
theorem dX12_trench_138 : decode cX12_trench 138 = .ok (.aload_n 0, 1) := by decide +kernel
theorem dX12_trench_139 : decode cX12_trench 139 = .ok (.getfield 7, 3) := by decide +kernel
theorem dX12_trench_142 : decode cX12_trench 142 = .ok (.iload 6, 2) := by decide +kernel
theorem dX12_trench_144 : decode cX12_trench 144 = .ok (.iconst 3, 1) := by decide +kernel
theorem dX12_trench_145 : decode cX12_trench 145 = .ok (.iadd, 1) := by decide +kernel
theorem dX12_trench_146 : decode cX12_trench 146 = .ok (.iload 4, 2) := by decide +kernel
theorem dX12_trench_148 : decode cX12_trench 148 = .ok (.iastore, 1) := by decide +kernel
theorem dX12_trench_149 : decode cX12_trench 149 = .ok (.aload_n 0, 1) := by decide +kernel
theorem dX12_trench_150 : decode cX12_trench 150 = .ok (.getfield 7, 3) := by decide +kernel
theorem dX12_trench_153 : decode cX12_trench 153 = .ok (.iload 6, 2) := by decide +kernel
theorem dX12_trench_155 : decode cX12_trench 155 = .ok (.iconst 4, 1) := by decide +kernel
theorem dX12_trench_156 : decode cX12_trench 156 = .ok (.iadd, 1) := by decide +kernel
theorem dX12_trench_157 : decode cX12_trench 157 = .ok (.aload_n 0, 1) := by decide +kernel
theorem dX12_trench_158 : decode cX12_trench 158 = .ok (.getfield 7, 3) := by decide +kernel
theorem dX12_trench_161 : decode cX12_trench 161 = .ok (.iconst 0, 1) := by decide +kernel
theorem dX12_trench_162 : decode cX12_trench 162 = .ok (.iaload, 1) := by decide +kernel
theorem dX12_trench_163 : decode cX12_trench 163 = .ok (.iastore, 1) := by decide +kernel
theorem dX12_trench_164 : decode cX12_trench 164 = .ok (.aload_n 0, 1) := by decide +kernel
theorem dX12_trench_165 : decode cX12_trench 165 = .ok (.getfield 7, 3) := by decide +kernel
theorem dX12_trench_168 : decode cX12_trench 168 = .ok (.iconst 2, 1) := by decide +kernel
theorem dX12_trench_169 : decode cX12_trench 169 = .ok (.dup2, 1) := by decide +kernel
theorem dX12_trench_170 : decode cX12_trench 170 = .ok (.iaload, 1) := by decide +kernel
theorem dX12_trench_171 : decode cX12_trench 171 = .ok (.iconst 1, 1) := by decide +kernel
theorem dX12_trench_172 : decode cX12_trench 172 = .ok (.iadd, 1) := by decide +kernel
theorem dX12_trench_173 : decode cX12_trench 173 = .ok (.iastore, 1) := by decide +kernel
theorem dX12_trench_174 : decode cX12_trench 174 = .ok (.aload_n 0, 1) := by decide +kernel
theorem dX12_trench_175 : decode cX12_trench 175 = .ok (.getfield 7, 3) := by decide +kernel
theorem dX12_trench_178 : decode cX12_trench 178 = .ok (.iconst 2, 1) := by decide +kernel
theorem dX12_trench_179 : decode cX12_trench 179 = .ok (.iaload, 1) := by decide +kernel
theorem dX12_trench_180 : decode cX12_trench 180 = .ok (.iconst 1, 1) := by decide +kernel
theorem dX12_trench_181 : decode cX12_trench 181 = .ok (.isub, 1) := by decide +kernel
theorem dX12_trench_182 : decode cX12_trench 182 = .ok (.ireturn, 1) := by decide +kernel
theorem dX12_state_0 : decode cX12_state 0 = .ok (.aload_n 0, 1) := by decide +kernel
theorem dX12_state_1 : decode cX12_state 1 = .ok (.iload_n 1, 1) := by decide +kernel
theorem dX12_state_2 : decode cX12_state 2 = .ok (.invokevirtual 100, 3) := by decide +kernel
theorem dX12_state_5 : decode cX12_state 5 = .ok (.ifCond .eq 47, 3) := by decide +kernel
theorem dX12_state_8 : decode cX12_state 8 = .ok (.aload_n 0, 1) := by decide +kernel
theorem dX12_state_9 : decode cX12_state 9 = .ok (.getfield 7, 3) := by decide +kernel
theorem dX12_state_12 : decode cX12_state 12 = .ok (.bipush 20, 2) := by decide +kernel
theorem dX12_state_14 : decode cX12_state 14 = .ok (.iload_n 1, 1) := by decide +kernel
theorem dX12_state_15 : decode cX12_state 15 = .ok (.iadd, 1) := by decide +kernel
theorem dX12_state_16 : decode cX12_state 16 = .ok (.iaload, 1) := by decide +kernel
theorem dX12_state_17 : decode cX12_state 17 = .ok (.iconst 1, 1) := by decide +kernel
theorem dX12_state_18 : decode cX12_state 18 = .ok (.if_icmp .eq 16, 3) := by decide +kernel
theorem dX12_state_21 : decode cX12_state 21 = .ok (.aload_n 0, 1) := by decide +kernel
theorem dX12_state_22 : decode cX12_state 22 = .ok (.getfield 7, 3) := by decide +kernel
theorem dX12_state_25 : decode cX12_state 25 = .ok (.bipush 20, 2) := by decide +kernel
theorem dX12_state_27 : decode cX12_state 27 = .ok (.iload_n 1, 1) := by decide +kernel
theorem dX12_state_28 : decode cX12_state 28 = .ok (.iadd, 1) := by decide +kernel
theorem dX12_state_29 : decode cX12_state 29 = .ok (.iaload, 1) := by decide +kernel
theorem dX12_state_30 : decode cX12_state 30 = .ok (.iconst 2, 1) := by decide +kernel
theorem dX12_state_31 : decode cX12_state 31 = .ok (.if_icmp .ne 21, 3) := by decide +kernel
theorem dX12_state_34 : decode cX12_state 34 = .ok (.iload_n 2, 1) := by decide +kernel
theorem dX12_state_35 : decode cX12_state 35 = .ok (.invokestatic 115, 3) := by decide +kernel
theorem dX12_state_38 : decode cX12_state 38 = .ok (.ifCond .eq 14, 3) := by decide +kernel
theorem dX12_state_41 : decode cX12_state 41 = .ok (.aload_n 0, 1) := by decide +kernel
theorem dX12_state_42 : decode cX12_state 42 = .ok (.getfield 7, 3) := by decide +kernel
theorem dX12_state_45 : decode cX12_state 45 = .ok (.iconst 3, 1) := by decide +kernel
theorem dX12_state_46 : decode cX12_state 46 = .ok (.iaload, 1) := by decide +kernel
theorem dX12_state_47 : decode cX12_state 47 = .ok (.bipush 8, 2) := by decide +kernel
theorem dX12_state_49 : decode cX12_state 49 = .ok (.if_icmp .ne 5, 3) := by decide +kernel
theorem dX12_state_52 : decode cX12_state 52 = .ok (.iconst (-1), 1) := by decide +kernel
theorem dX12_state_53 : decode cX12_state 53 = .ok (.ireturn, 1) := by decide +kernel
theorem dX12_state_54 : decode cX12_state 54 = .ok (.aload_n 0, 1) := by decide +kernel
theorem dX12_state_55 : decode cX12_state 55 = .ok (.getfield 7, 3) := by decide +kernel
theorem dX12_state_58 : decode cX12_state 58 = .ok (.sipush 260, 3) := by decide +kernel
theorem dX12_state_61 : decode cX12_state 61 = .ok (.iconst 2, 1) := by decide +kernel
theorem dX12_state_62 : decode cX12_state 62 = .ok (.aload_n 0, 1) := by decide +kernel
theorem dX12_state_63 : decode cX12_state 63 = .ok (.getfield 7, 3) := by decide +kernel
theorem dX12_state_66 : decode cX12_state 66 = .ok (.iconst 3, 1) := by decide +kernel
theorem dX12_state_67 : decode cX12_state 67 = .ok (.iaload, 1) := by decide +kernel
theorem dX12_state_68 : decode cX12_state 68 = .ok (.imul, 1) := by decide +kernel
theorem dX12_state_69 : decode cX12_state 69 = .ok (.iadd, 1) := by decide +kernel
theorem dX12_state_70 : decode cX12_state 70 = .ok (.iload_n 1, 1) := by decide +kernel
theorem dX12_state_71 : decode cX12_state 71 = .ok (.iastore, 1) := by decide +kernel
theorem dX12_state_72 : decode cX12_state 72 = .ok (.aload_n 0, 1) := by decide +kernel
theorem dX12_state_73 : decode cX12_state 73 = .ok (.getfield 7, 3) := by decide +kernel
theorem dX12_state_76 : decode cX12_state 76 = .ok (.sipush 260, 3) := by decide +kernel
theorem dX12_state_79 : decode cX12_state 79 = .ok (.iconst 2, 1) := by decide +kernel
theorem dX12_state_80 : decode cX12_state 80 = .ok (.aload_n 0, 1) := by decide +kernel
theorem dX12_state_81 : decode cX12_state 81 = .ok (.getfield 7, 3) := by decide +kernel
theorem dX12_state_84 : decode cX12_state 84 = .ok (.iconst 3, 1) := by decide +kernel
theorem dX12_state_85 : decode cX12_state 85 = .ok (.iaload, 1) := by decide +kernel
theorem dX12_state_86 : decode cX12_state 86 = .ok (.imul, 1) := by decide +kernel
theorem dX12_state_87 : decode cX12_state 87 = .ok (.iadd, 1) := by decide +kernel
theorem dX12_state_88 : decode cX12_state 88 = .ok (.iconst 1, 1) := by decide +kernel
theorem dX12_state_89 : decode cX12_state 89 = .ok (.iadd, 1) := by decide +kernel
theorem dX12_state_90 : decode cX12_state 90 = .ok (.iload_n 2, 1) := by decide +kernel
theorem dX12_state_91 : decode cX12_state 91 = .ok (.iastore, 1) := by decide +kernel
theorem dX12_state_92 : decode cX12_state 92 = .ok (.aload_n 0, 1) := by decide +kernel
theorem dX12_state_93 : decode cX12_state 93 = .ok (.getfield 7, 3) := by decide +kernel
theorem dX12_state_96 : decode cX12_state 96 = .ok (.iconst 3, 1) := by decide +kernel
theorem dX12_state_97 : decode cX12_state 97 = .ok (.dup2, 1) := by decide +kernel
theorem dX12_state_98 : decode cX12_state 98 = .ok (.iaload, 1) := by decide +kernel
theorem dX12_state_99 : decode cX12_state 99 = .ok (.iconst 1, 1) := by decide +kernel
theorem dX12_state_100 : decode cX12_state 100 = .ok (.iadd, 1) := by decide +kernel
theorem dX12_state_101 : decode cX12_state 101 = .ok (.iastore, 1) := by decide +kernel
theorem dX12_state_102 : decode cX12_state 102 = .ok (.aload_n 0, 1) := by decide +kernel
theorem dX12_state_103 : decode cX12_state 103 = .ok (.getfield 7, 3) := by decide +kernel
theorem dX12_state_106 : decode cX12_state 106 = .ok (.iconst 3, 1) := by decide +kernel
theorem dX12_state_107 : decode cX12_state 107 = .ok (.iaload, 1) := by decide +kernel
theorem dX12_state_108 : decode cX12_state 108 = .ok (.iconst 1, 1) := by decide +kernel
theorem dX12_state_109 : decode cX12_state 109 = .ok (.isub, 1) := by decide +kernel
theorem dX12_state_110 : decode cX12_state 110 = .ok (.ireturn, 1) := by decide +kernel
theorem dX12_isState_0 : decode cX12_isState 0 = .ok (.iload_n 1, 1) := by decide +kernel
theorem dX12_isState_1 : decode cX12_isState 1 = .ok (.iconst 0, 1) := by decide +kernel
theorem dX12_isState_2 : decode cX12_isState 2 = .ok (.aload_n 0, 1) := by decide +kernel
theorem dX12_isState_3 : decode cX12_isState 3 = .ok (.getfield 7, 3) := by decide +kernel
theorem dX12_isState_6 : decode cX12_isState 6 = .ok (.iconst 3, 1) := by decide +kernel
theorem dX12_isState_7 : decode cX12_isState 7 = .ok (.iaload, 1) := by decide +kernel
theorem dX12_isState_8 : decode cX12_isState 8 = .ok (.iconst 1, 1) := by decide +kernel
theorem dX12_isState_9 : decode cX12_isState 9 = .ok (.isub, 1) := by decide +kernel
theorem dX12_isState_10 : decode cX12_isState 10 = .ok (.invokestatic 96, 3) := by decide +kernel
theorem dX12_isState_13 : decode cX12_isState 13 = .ok (.ireturn, 1) := by decide +kernel
theorem dX12_isOpen_0 : decode cX12_isOpen 0 = .ok (.aload_n 0, 1) := by decide +kernel
theorem dX12_isOpen_1 : decode cX12_isOpen 1 = .ok (.getfield 25, 3) := by decide +kernel
theorem dX12_isOpen_4 : decode cX12_isOpen 4 = .ok (.iload_n 1, 1) := by decide +kernel
theorem dX12_isOpen_5 : decode cX12_isOpen 5 = .ok (.iaload, 1) := by decide +kernel
theorem dX12_isOpen_6 : decode cX12_isOpen 6 = .ok (.iconst 2, 1) := by decide +kernel
theorem dX12_isOpen_7 : decode cX12_isOpen 7 = .ok (.if_icmp .eq 36, 3) := by decide +kernel
theorem dX12_isOpen_10 : decode cX12_isOpen 10 = .ok (.aload_n 0, 1) := by decide +kernel
theorem dX12_isOpen_11 : decode cX12_isOpen 11 = .ok (.getfield 7, 3) := by decide +kernel
theorem dX12_isOpen_14 : decode cX12_isOpen 14 = .ok (.bipush 20, 2) := by decide +kernel
theorem dX12_isOpen_16 : decode cX12_isOpen 16 = .ok (.iload_n 1, 1) := by decide +kernel
theorem dX12_isOpen_17 : decode cX12_isOpen 17 = .ok (.iadd, 1) := by decide +kernel
theorem dX12_isOpen_18 : decode cX12_isOpen 18 = .ok (.iaload, 1) := by decide +kernel
theorem dX12_isOpen_19 : decode cX12_isOpen 19 = .ok (.iconst 3, 1) := by decide +kernel
theorem dX12_isOpen_20 : decode cX12_isOpen 20 = .ok (.if_icmp .ne 27, 3) := by decide +kernel
theorem dX12_isOpen_23 : decode cX12_isOpen 23 = .ok (.aload_n 0, 1) := by decide +kernel
theorem dX12_isOpen_24 : decode cX12_isOpen 24 = .ok (.getfield 40, 3) := by decide +kernel
theorem dX12_isOpen_27 : decode cX12_isOpen 27 = .ok (.iload_n 1, 1) := by decide +kernel
theorem dX12_isOpen_28 : decode cX12_isOpen 28 = .ok (.iaload, 1) := by decide +kernel
theorem dX12_isOpen_29 : decode cX12_isOpen 29 = .ok (.ifCond .ne 18, 3) := by decide +kernel
theorem dX12_isOpen_32 : decode cX12_isOpen 32 = .ok (.aload_n 0, 1) := by decide +kernel
theorem dX12_isOpen_33 : decode cX12_isOpen 33 = .ok (.getfield 37, 3) := by decide +kernel
theorem dX12_isOpen_36 : decode cX12_isOpen 36 = .ok (.iload_n 1, 1) := by decide +kernel
theorem dX12_isOpen_37 : decode cX12_isOpen 37 = .ok (.iaload, 1) := by decide +kernel
theorem dX12_isOpen_38 : decode cX12_isOpen 38 = .ok (.bipush 20, 2) := by decide +kernel
theorem dX12_isOpen_40 : decode cX12_isOpen 40 = .ok (.if_icmp .ge 7, 3) := by decide +kernel
theorem dX12_isOpen_43 : decode cX12_isOpen 43 = .ok (.iconst 1, 1) := by decide +kernel
theorem dX12_isOpen_44 : decode cX12_isOpen 44 = .ok (.goto 4, 3) := by decide +kernel
theorem dX12_isOpen_47 : decode cX12_isOpen 47 = .ok (.iconst 0, 1) := by decide +kernel
theorem dX12_isOpen_48 : decode cX12_isOpen 48 = .ok (.ireturn, 1) := by decide +kernel
theorem dX12_first_0 : decode cX12_first 0 = .ok (.iconst 0, 1) := by decide +kernel
theorem dX12_first_1 : decode cX12_first 1 = .ok (.istore_n 1, 1) := by decide +kernel
theorem dX12_first_2 : decode cX12_first 2 = .ok (.iload_n 1, 1) := by decide +kernel
theorem dX12_first_3 : decode cX12_first 3 = .ok (.bipush 64, 2) := by decide +kernel
theorem dX12_first_5 : decode cX12_first 5 = .ok (.if_icmp .ge 52, 3) := by decide +kernel
theorem dX12_first_8 : decode cX12_first 8 = .ok (.aload_n 0, 1) := by decide +kernel
theorem dX12_first_9 : decode cX12_first 9 = .ok (.getfield 25, 3) := by decide +kernel
theorem dX12_first_12 : decode cX12_first 12 = .ok (.iload_n 1, 1) := by decide +kernel
theorem dX12_first_13 : decode cX12_first 13 = .ok (.iconst 0, 1) := by decide +kernel
theorem dX12_first_14 : decode cX12_first 14 = .ok (.iastore, 1) := by decide +kernel
theorem dX12_first_15 : decode cX12_first 15 = .ok (.aload_n 0, 1) := by decide +kernel
theorem dX12_first_16 : decode cX12_first 16 = .ok (.getfield 31, 3) := by decide +kernel
theorem dX12_first_19 : decode cX12_first 19 = .ok (.iload_n 1, 1) := by decide +kernel
theorem dX12_first_20 : decode cX12_first 20 = .ok (.aload_n 0, 1) := by decide +kernel
theorem dX12_first_21 : decode cX12_first 21 = .ok (.getfield 7, 3) := by decide +kernel
theorem dX12_first_24 : decode cX12_first 24 = .ok (.bipush 84, 2) := by decide +kernel
theorem dX12_first_26 : decode cX12_first 26 = .ok (.iload_n 1, 1) := by decide +kernel
theorem dX12_first_27 : decode cX12_first 27 = .ok (.iadd, 1) := by decide +kernel
theorem dX12_first_28 : decode cX12_first 28 = .ok (.iaload, 1) := by decide +kernel
theorem dX12_first_29 : decode cX12_first 29 = .ok (.iastore, 1) := by decide +kernel
theorem dX12_first_30 : decode cX12_first 30 = .ok (.aload_n 0, 1) := by decide +kernel
theorem dX12_first_31 : decode cX12_first 31 = .ok (.getfield 34, 3) := by decide +kernel
theorem dX12_first_34 : decode cX12_first 34 = .ok (.iload_n 1, 1) := by decide +kernel
theorem dX12_first_35 : decode cX12_first 35 = .ok (.iconst 0, 1) := by decide +kernel
theorem dX12_first_36 : decode cX12_first 36 = .ok (.iastore, 1) := by decide +kernel
theorem dX12_first_37 : decode cX12_first 37 = .ok (.aload_n 0, 1) := by decide +kernel
theorem dX12_first_38 : decode cX12_first 38 = .ok (.getfield 37, 3) := by decide +kernel
theorem dX12_first_41 : decode cX12_first 41 = .ok (.iload_n 1, 1) := by decide +kernel
theorem dX12_first_42 : decode cX12_first 42 = .ok (.iconst 0, 1) := by decide +kernel
theorem dX12_first_43 : decode cX12_first 43 = .ok (.iastore, 1) := by decide +kernel
theorem dX12_first_44 : decode cX12_first 44 = .ok (.aload_n 0, 1) := by decide +kernel
theorem dX12_first_45 : decode cX12_first 45 = .ok (.getfield 40, 3) := by decide +kernel
theorem dX12_first_48 : decode cX12_first 48 = .ok (.iload_n 1, 1) := by decide +kernel
theorem dX12_first_49 : decode cX12_first 49 = .ok (.iconst 0, 1) := by decide +kernel
theorem dX12_first_50 : decode cX12_first 50 = .ok (.iastore, 1) := by decide +kernel
theorem dX12_first_51 : decode cX12_first 51 = .ok (.iinc 1 1, 3) := by decide +kernel
theorem dX12_first_54 : decode cX12_first 54 = .ok (.goto (-52), 3) := by decide +kernel
theorem dX12_first_57 : decode cX12_first 57 = .ok (.return_, 1) := by decide +kernel
theorem dX12_begin_0 : decode cX12_begin 0 = .ok (.iconst 0, 1) := by decide +kernel
theorem dX12_begin_1 : decode cX12_begin 1 = .ok (.istore 4, 2) := by decide +kernel
theorem dX12_begin_3 : decode cX12_begin 3 = .ok (.iload 4, 2) := by decide +kernel
theorem dX12_begin_5 : decode cX12_begin 5 = .ok (.bipush 64, 2) := by decide +kernel
theorem dX12_begin_7 : decode cX12_begin 7 = .ok (.if_icmp .ge 41, 3) := by decide +kernel
theorem dX12_begin_10 : decode cX12_begin 10 = .ok (.iload_n 2, 1) := by decide +kernel
theorem dX12_begin_11 : decode cX12_begin 11 = .ok (.ifCond .le 37, 3) := by decide +kernel
theorem dX12_begin_14 : decode cX12_begin 14 = .ok (.aload_n 0, 1) := by decide +kernel
theorem dX12_begin_15 : decode cX12_begin 15 = .ok (.getfield 37, 3) := by decide +kernel
theorem dX12_begin_18 : decode cX12_begin 18 = .ok (.iload 4, 2) := by decide +kernel
theorem dX12_begin_20 : decode cX12_begin 20 = .ok (.dup2, 1) := by decide +kernel
theorem dX12_begin_21 : decode cX12_begin 21 = .ok (.iaload, 1) := by decide +kernel
theorem dX12_begin_22 : decode cX12_begin 22 = .ok (.aload_n 0, 1) := by decide +kernel
theorem dX12_begin_23 : decode cX12_begin 23 = .ok (.getfield 7, 3) := by decide +kernel
theorem dX12_begin_26 : decode cX12_begin 26 = .ok (.sipush 1620, 3) := by decide +kernel
theorem dX12_begin_29 : decode cX12_begin 29 = .ok (.bipush 64, 2) := by decide +kernel
theorem dX12_begin_31 : decode cX12_begin 31 = .ok (.iload_n 2, 1) := by decide +kernel
theorem dX12_begin_32 : decode cX12_begin 32 = .ok (.iconst 1, 1) := by decide +kernel
theorem dX12_begin_33 : decode cX12_begin 33 = .ok (.isub, 1) := by decide +kernel
theorem dX12_begin_34 : decode cX12_begin 34 = .ok (.imul, 1) := by decide +kernel
theorem dX12_begin_35 : decode cX12_begin 35 = .ok (.iadd, 1) := by decide +kernel
theorem dX12_begin_36 : decode cX12_begin 36 = .ok (.iload 4, 2) := by decide +kernel
theorem dX12_begin_38 : decode cX12_begin 38 = .ok (.iadd, 1) := by decide +kernel
theorem dX12_begin_39 : decode cX12_begin 39 = .ok (.iaload, 1) := by decide +kernel
theorem dX12_begin_40 : decode cX12_begin 40 = .ok (.iadd, 1) := by decide +kernel
theorem dX12_begin_41 : decode cX12_begin 41 = .ok (.iastore, 1) := by decide +kernel
theorem dX12_begin_42 : decode cX12_begin 42 = .ok (.iinc 4 1, 3) := by decide +kernel
theorem dX12_begin_45 : decode cX12_begin 45 = .ok (.goto (-42), 3) := by decide +kernel
theorem dX12_begin_48 : decode cX12_begin 48 = .ok (.iconst 0, 1) := by decide +kernel
theorem dX12_begin_49 : decode cX12_begin 49 = .ok (.istore 4, 2) := by decide +kernel
theorem dX12_begin_51 : decode cX12_begin 51 = .ok (.iload 4, 2) := by decide +kernel
theorem dX12_begin_53 : decode cX12_begin 53 = .ok (.aload_n 0, 1) := by decide +kernel
theorem dX12_begin_54 : decode cX12_begin 54 = .ok (.getfield 7, 3) := by decide +kernel
theorem dX12_begin_57 : decode cX12_begin 57 = .ok (.bipush 10, 2) := by decide +kernel
theorem dX12_begin_59 : decode cX12_begin 59 = .ok (.iaload, 1) := by decide +kernel
theorem dX12_begin_60 : decode cX12_begin 60 = .ok (.if_icmp .ge 49, 3) := by decide +kernel
theorem dX12_begin_63 : decode cX12_begin 63 = .ok (.iload_n 2, 1) := by decide +kernel
theorem dX12_begin_64 : decode cX12_begin 64 = .ok (.aload_n 0, 1) := by decide +kernel
theorem dX12_begin_65 : decode cX12_begin 65 = .ok (.getfield 7, 3) := by decide +kernel
theorem dX12_begin_68 : decode cX12_begin 68 = .ok (.iconst 0, 1) := by decide +kernel
theorem dX12_begin_69 : decode cX12_begin 69 = .ok (.iaload, 1) := by decide +kernel
theorem dX12_begin_70 : decode cX12_begin 70 = .ok (.if_icmp .lt 39, 3) := by decide +kernel
theorem dX12_begin_73 : decode cX12_begin 73 = .ok (.iload_n 3, 1) := by decide +kernel
theorem dX12_begin_74 : decode cX12_begin 74 = .ok (.iload 4, 2) := by decide +kernel
theorem dX12_begin_76 : decode cX12_begin 76 = .ok (.ishr, 1) := by decide +kernel
theorem dX12_begin_77 : decode cX12_begin 77 = .ok (.iconst 1, 1) := by decide +kernel
theorem dX12_begin_78 : decode cX12_begin 78 = .ok (.iand, 1) := by decide +kernel
theorem dX12_begin_79 : decode cX12_begin 79 = .ok (.iconst 1, 1) := by decide +kernel
theorem dX12_begin_80 : decode cX12_begin 80 = .ok (.if_icmp .ne 23, 3) := by decide +kernel
theorem dX12_begin_83 : decode cX12_begin 83 = .ok (.aload_n 0, 1) := by decide +kernel
theorem dX12_begin_84 : decode cX12_begin 84 = .ok (.getfield 37, 3) := by decide +kernel
theorem dX12_begin_87 : decode cX12_begin 87 = .ok (.aload_n 0, 1) := by decide +kernel
theorem dX12_begin_88 : decode cX12_begin 88 = .ok (.getfield 7, 3) := by decide +kernel
theorem dX12_begin_91 : decode cX12_begin 91 = .ok (.sipush 1600, 3) := by decide +kernel
theorem dX12_begin_94 : decode cX12_begin 94 = .ok (.iconst 2, 1) := by decide +kernel
theorem dX12_begin_95 : decode cX12_begin 95 = .ok (.iload 4, 2) := by decide +kernel
theorem dX12_begin_97 : decode cX12_begin 97 = .ok (.imul, 1) := by decide +kernel
theorem dX12_begin_98 : decode cX12_begin 98 = .ok (.iadd, 1) := by decide +kernel
theorem dX12_begin_99 : decode cX12_begin 99 = .ok (.iaload, 1) := by decide +kernel
theorem dX12_begin_100 : decode cX12_begin 100 = .ok (.bipush 20, 2) := by decide +kernel
theorem dX12_begin_102 : decode cX12_begin 102 = .ok (.iastore, 1) := by decide +kernel
theorem dX12_begin_103 : decode cX12_begin 103 = .ok (.iinc 4 1, 3) := by decide +kernel
theorem dX12_begin_106 : decode cX12_begin 106 = .ok (.goto (-55), 3) := by decide +kernel
theorem dX12_begin_109 : decode cX12_begin 109 = .ok (.aload_n 0, 1) := by decide +kernel
theorem dX12_begin_110 : decode cX12_begin 110 = .ok (.getfield 7, 3) := by decide +kernel
theorem dX12_begin_113 : decode cX12_begin 113 = .ok (.sipush 260, 3) := by decide +kernel
theorem dX12_begin_116 : decode cX12_begin 116 = .ok (.iconst 2, 1) := by decide +kernel
theorem dX12_begin_117 : decode cX12_begin 117 = .ok (.iload_n 1, 1) := by decide +kernel
theorem dX12_begin_118 : decode cX12_begin 118 = .ok (.imul, 1) := by decide +kernel
theorem dX12_begin_119 : decode cX12_begin 119 = .ok (.iadd, 1) := by decide +kernel
theorem dX12_begin_120 : decode cX12_begin 120 = .ok (.iaload, 1) := by decide +kernel
theorem dX12_begin_121 : decode cX12_begin 121 = .ok (.istore 4, 2) := by decide +kernel
theorem dX12_begin_123 : decode cX12_begin 123 = .ok (.aload_n 0, 1) := by decide +kernel
theorem dX12_begin_124 : decode cX12_begin 124 = .ok (.getfield 7, 3) := by decide +kernel
theorem dX12_begin_127 : decode cX12_begin 127 = .ok (.sipush 260, 3) := by decide +kernel
theorem dX12_begin_130 : decode cX12_begin 130 = .ok (.iconst 2, 1) := by decide +kernel
theorem dX12_begin_131 : decode cX12_begin 131 = .ok (.iload_n 1, 1) := by decide +kernel
theorem dX12_begin_132 : decode cX12_begin 132 = .ok (.imul, 1) := by decide +kernel
theorem dX12_begin_133 : decode cX12_begin 133 = .ok (.iadd, 1) := by decide +kernel
theorem dX12_begin_134 : decode cX12_begin 134 = .ok (.iconst 1, 1) := by decide +kernel
theorem dX12_begin_135 : decode cX12_begin 135 = .ok (.iadd, 1) := by decide +kernel
theorem dX12_begin_136 : decode cX12_begin 136 = .ok (.iaload, 1) := by decide +kernel
theorem dX12_begin_137 : decode cX12_begin 137 = .ok (.iload_n 2, 1) := by decide +kernel
theorem dX12_begin_138 : decode cX12_begin 138 = .ok (.if_icmp .ne 31, 3) := by decide +kernel
theorem dX12_begin_141 : decode cX12_begin 141 = .ok (.aload_n 0, 1) := by decide +kernel
theorem dX12_begin_142 : decode cX12_begin 142 = .ok (.getfield 31, 3) := by decide +kernel
theorem dX12_begin_145 : decode cX12_begin 145 = .ok (.iload 4, 2) := by decide +kernel
theorem dX12_begin_147 : decode cX12_begin 147 = .ok (.iaload, 1) := by decide +kernel
theorem dX12_begin_148 : decode cX12_begin 148 = .ok (.ifCond .le 21, 3) := by decide +kernel
theorem dX12_begin_151 : decode cX12_begin 151 = .ok (.aload_n 0, 1) := by decide +kernel
theorem dX12_begin_152 : decode cX12_begin 152 = .ok (.getfield 40, 3) := by decide +kernel
theorem dX12_begin_155 : decode cX12_begin 155 = .ok (.iload 4, 2) := by decide +kernel
theorem dX12_begin_157 : decode cX12_begin 157 = .ok (.iaload, 1) := by decide +kernel
theorem dX12_begin_158 : decode cX12_begin 158 = .ok (.ifCond .ne 11, 3) := by decide +kernel
theorem dX12_begin_161 : decode cX12_begin 161 = .ok (.aload_n 0, 1) := by decide +kernel
theorem dX12_begin_162 : decode cX12_begin 162 = .ok (.getfield 25, 3) := by decide +kernel
theorem dX12_begin_165 : decode cX12_begin 165 = .ok (.iload 4, 2) := by decide +kernel
theorem dX12_begin_167 : decode cX12_begin 167 = .ok (.iconst 1, 1) := by decide +kernel
theorem dX12_begin_168 : decode cX12_begin 168 = .ok (.iastore, 1) := by decide +kernel
theorem dX12_begin_169 : decode cX12_begin 169 = .ok (.iconst 0, 1) := by decide +kernel
theorem dX12_begin_170 : decode cX12_begin 170 = .ok (.istore 5, 2) := by decide +kernel
theorem dX12_begin_172 : decode cX12_begin 172 = .ok (.iload 5, 2) := by decide +kernel
theorem dX12_begin_174 : decode cX12_begin 174 = .ok (.aload_n 0, 1) := by decide +kernel
theorem dX12_begin_175 : decode cX12_begin 175 = .ok (.getfield 7, 3) := by decide +kernel
theorem dX12_begin_178 : decode cX12_begin 178 = .ok (.iconst 2, 1) := by decide +kernel
theorem dX12_begin_179 : decode cX12_begin 179 = .ok (.iaload, 1) := by decide +kernel
theorem dX12_begin_180 : decode cX12_begin 180 = .ok (.if_icmp .ge 117, 3) := by decide +kernel
theorem dX12_begin_183 : decode cX12_begin 183 = .ok (.sipush 210, 3) := by decide +kernel
theorem dX12_begin_186 : decode cX12_begin 186 = .ok (.iconst 5, 1) := by decide +kernel
theorem dX12_begin_187 : decode cX12_begin 187 = .ok (.iload 5, 2) := by decide +kernel
theorem dX12_begin_189 : decode cX12_begin 189 = .ok (.imul, 1) := by decide +kernel
theorem dX12_begin_190 : decode cX12_begin 190 = .ok (.iadd, 1) := by decide +kernel
theorem dX12_begin_191 : decode cX12_begin 191 = .ok (.istore 6, 2) := by decide +kernel
theorem dX12_begin_193 : decode cX12_begin 193 = .ok (.aload_n 0, 1) := by decide +kernel
theorem dX12_begin_194 : decode cX12_begin 194 = .ok (.getfield 7, 3) := by decide +kernel
theorem dX12_begin_197 : decode cX12_begin 197 = .ok (.iload 6, 2) := by decide +kernel
theorem dX12_begin_199 : decode cX12_begin 199 = .ok (.iaload, 1) := by decide +kernel
theorem dX12_begin_200 : decode cX12_begin 200 = .ok (.istore 7, 2) := by decide +kernel
theorem dX12_begin_202 : decode cX12_begin 202 = .ok (.iconst 0, 1) := by decide +kernel
theorem dX12_begin_203 : decode cX12_begin 203 = .ok (.istore 8, 2) := by decide +kernel
theorem dX12_begin_205 : decode cX12_begin 205 = .ok (.iload 8, 2) := by decide +kernel
theorem dX12_begin_207 : decode cX12_begin 207 = .ok (.aload_n 0, 1) := by decide +kernel
theorem dX12_begin_208 : decode cX12_begin 208 = .ok (.getfield 7, 3) := by decide +kernel
theorem dX12_begin_211 : decode cX12_begin 211 = .ok (.iload 6, 2) := by decide +kernel
theorem dX12_begin_213 : decode cX12_begin 213 = .ok (.iconst 2, 1) := by decide +kernel
theorem dX12_begin_214 : decode cX12_begin 214 = .ok (.iadd, 1) := by decide +kernel
theorem dX12_begin_215 : decode cX12_begin 215 = .ok (.iaload, 1) := by decide +kernel
theorem dX12_begin_216 : decode cX12_begin 216 = .ok (.if_icmp .ge 75, 3) := by decide +kernel
theorem dX12_begin_219 : decode cX12_begin 219 = .ok (.aload_n 0, 1) := by decide +kernel
theorem dX12_begin_220 : decode cX12_begin 220 = .ok (.getfield 7, 3) := by decide +kernel
theorem dX12_begin_223 : decode cX12_begin 223 = .ok (.iload 6, 2) := by decide +kernel
theorem dX12_begin_225 : decode cX12_begin 225 = .ok (.iconst 4, 1) := by decide +kernel
theorem dX12_begin_226 : decode cX12_begin 226 = .ok (.iadd, 1) := by decide +kernel
theorem dX12_begin_227 : decode cX12_begin 227 = .ok (.iaload, 1) := by decide +kernel
theorem dX12_begin_228 : decode cX12_begin 228 = .ok (.iload 8, 2) := by decide +kernel
theorem dX12_begin_230 : decode cX12_begin 230 = .ok (.aload_n 0, 1) := by decide +kernel
theorem dX12_begin_231 : decode cX12_begin 231 = .ok (.getfield 7, 3) := by decide +kernel
theorem dX12_begin_234 : decode cX12_begin 234 = .ok (.iload 6, 2) := by decide +kernel
theorem dX12_begin_236 : decode cX12_begin 236 = .ok (.iconst 3, 1) := by decide +kernel
theorem dX12_begin_237 : decode cX12_begin 237 = .ok (.iadd, 1) := by decide +kernel
theorem dX12_begin_238 : decode cX12_begin 238 = .ok (.iaload, 1) := by decide +kernel
theorem dX12_begin_239 : decode cX12_begin 239 = .ok (.idiv, 1) := by decide +kernel
theorem dX12_begin_240 : decode cX12_begin 240 = .ok (.iadd, 1) := by decide +kernel
theorem dX12_begin_241 : decode cX12_begin 241 = .ok (.iload_n 2, 1) := by decide +kernel
theorem dX12_begin_242 : decode cX12_begin 242 = .ok (.if_icmp .ne 26, 3) := by decide +kernel
theorem dX12_begin_245 : decode cX12_begin 245 = .ok (.aload_n 0, 1) := by decide +kernel
theorem dX12_begin_246 : decode cX12_begin 246 = .ok (.getfield 25, 3) := by decide +kernel
theorem dX12_begin_249 : decode cX12_begin 249 = .ok (.iload 7, 2) := by decide +kernel
theorem dX12_begin_251 : decode cX12_begin 251 = .ok (.iaload, 1) := by decide +kernel
theorem dX12_begin_252 : decode cX12_begin 252 = .ok (.ifCond .eq 16, 3) := by decide +kernel
theorem dX12_begin_255 : decode cX12_begin 255 = .ok (.aload_n 0, 1) := by decide +kernel
theorem dX12_begin_256 : decode cX12_begin 256 = .ok (.getfield 51, 3) := by decide +kernel
theorem dX12_begin_259 : decode cX12_begin 259 = .ok (.iload_n 1, 1) := by decide +kernel
theorem dX12_begin_260 : decode cX12_begin 260 = .ok (.dup2, 1) := by decide +kernel
theorem dX12_begin_261 : decode cX12_begin 261 = .ok (.iaload, 1) := by decide +kernel
theorem dX12_begin_262 : decode cX12_begin 262 = .ok (.iconst 1, 1) := by decide +kernel
theorem dX12_begin_263 : decode cX12_begin 263 = .ok (.iload 5, 2) := by decide +kernel
theorem dX12_begin_265 : decode cX12_begin 265 = .ok (.ishl, 1) := by decide +kernel
theorem dX12_begin_266 : decode cX12_begin 266 = .ok (.ior, 1) := by decide +kernel
theorem dX12_begin_267 : decode cX12_begin 267 = .ok (.iastore, 1) := by decide +kernel
theorem dX12_begin_268 : decode cX12_begin 268 = .ok (.aload_n 0, 1) := by decide +kernel
theorem dX12_begin_269 : decode cX12_begin 269 = .ok (.iload 7, 2) := by decide +kernel
theorem dX12_begin_271 : decode cX12_begin 271 = .ok (.aload_n 0, 1) := by decide +kernel
theorem dX12_begin_272 : decode cX12_begin 272 = .ok (.getfield 7, 3) := by decide +kernel
theorem dX12_begin_275 : decode cX12_begin 275 = .ok (.iload 6, 2) := by decide +kernel
theorem dX12_begin_277 : decode cX12_begin 277 = .ok (.iconst 1, 1) := by decide +kernel
theorem dX12_begin_278 : decode cX12_begin 278 = .ok (.iadd, 1) := by decide +kernel
theorem dX12_begin_279 : decode cX12_begin 279 = .ok (.iaload, 1) := by decide +kernel
theorem dX12_begin_280 : decode cX12_begin 280 = .ok (.invokevirtual 111, 3) := by decide +kernel
theorem dX12_begin_283 : decode cX12_begin 283 = .ok (.istore 7, 2) := by decide +kernel
theorem dX12_begin_285 : decode cX12_begin 285 = .ok (.iinc 8 1, 3) := by decide +kernel
theorem dX12_begin_288 : decode cX12_begin 288 = .ok (.goto (-83), 3) := by decide +kernel
theorem dX12_begin_291 : decode cX12_begin 291 = .ok (.iinc 5 1, 3) := by decide +kernel
theorem dX12_begin_294 : decode cX12_begin 294 = .ok (.goto (-122), 3) := by decide +kernel
theorem dX12_begin_297 : decode cX12_begin 297 = .ok (.iconst 0, 1) := by decide +kernel
theorem dX12_begin_298 : decode cX12_begin 298 = .ok (.istore 5, 2) := by decide +kernel
theorem dX12_begin_300 : decode cX12_begin 300 = .ok (.iload 5, 2) := by decide +kernel
theorem dX12_begin_302 : decode cX12_begin 302 = .ok (.aload_n 0, 1) := by decide +kernel
theorem dX12_begin_303 : decode cX12_begin 303 = .ok (.getfield 7, 3) := by decide +kernel
theorem dX12_begin_306 : decode cX12_begin 306 = .ok (.iconst 2, 1) := by decide +kernel
theorem dX12_begin_307 : decode cX12_begin 307 = .ok (.iaload, 1) := by decide +kernel
theorem dX12_begin_308 : decode cX12_begin 308 = .ok (.if_icmp .ge 118, 3) := by decide +kernel
theorem dX12_begin_311 : decode cX12_begin 311 = .ok (.sipush 210, 3) := by decide +kernel
theorem dX12_begin_314 : decode cX12_begin 314 = .ok (.iconst 5, 1) := by decide +kernel
theorem dX12_begin_315 : decode cX12_begin 315 = .ok (.iload 5, 2) := by decide +kernel
theorem dX12_begin_317 : decode cX12_begin 317 = .ok (.imul, 1) := by decide +kernel
theorem dX12_begin_318 : decode cX12_begin 318 = .ok (.iadd, 1) := by decide +kernel
theorem dX12_begin_319 : decode cX12_begin 319 = .ok (.istore 6, 2) := by decide +kernel
theorem dX12_begin_321 : decode cX12_begin 321 = .ok (.aload_n 0, 1) := by decide +kernel
theorem dX12_begin_322 : decode cX12_begin 322 = .ok (.getfield 7, 3) := by decide +kernel
theorem dX12_begin_325 : decode cX12_begin 325 = .ok (.iload 6, 2) := by decide +kernel
theorem dX12_begin_327 : decode cX12_begin 327 = .ok (.iaload, 1) := by decide +kernel
theorem dX12_begin_328 : decode cX12_begin 328 = .ok (.istore 7, 2) := by decide +kernel
theorem dX12_begin_330 : decode cX12_begin 330 = .ok (.iconst 0, 1) := by decide +kernel
theorem dX12_begin_331 : decode cX12_begin 331 = .ok (.istore 8, 2) := by decide +kernel
theorem dX12_begin_333 : decode cX12_begin 333 = .ok (.iload 8, 2) := by decide +kernel
theorem dX12_begin_335 : decode cX12_begin 335 = .ok (.aload_n 0, 1) := by decide +kernel
theorem dX12_begin_336 : decode cX12_begin 336 = .ok (.getfield 7, 3) := by decide +kernel
theorem dX12_begin_339 : decode cX12_begin 339 = .ok (.iload 6, 2) := by decide +kernel
theorem dX12_begin_341 : decode cX12_begin 341 = .ok (.iconst 2, 1) := by decide +kernel
theorem dX12_begin_342 : decode cX12_begin 342 = .ok (.iadd, 1) := by decide +kernel
theorem dX12_begin_343 : decode cX12_begin 343 = .ok (.iaload, 1) := by decide +kernel
theorem dX12_begin_344 : decode cX12_begin 344 = .ok (.if_icmp .ge 76, 3) := by decide +kernel
theorem dX12_begin_347 : decode cX12_begin 347 = .ok (.aload_n 0, 1) := by decide +kernel
theorem dX12_begin_348 : decode cX12_begin 348 = .ok (.getfield 7, 3) := by decide +kernel
theorem dX12_begin_351 : decode cX12_begin 351 = .ok (.iload 6, 2) := by decide +kernel
theorem dX12_begin_353 : decode cX12_begin 353 = .ok (.iconst 4, 1) := by decide +kernel
theorem dX12_begin_354 : decode cX12_begin 354 = .ok (.iadd, 1) := by decide +kernel
theorem dX12_begin_355 : decode cX12_begin 355 = .ok (.iaload, 1) := by decide +kernel
theorem dX12_begin_356 : decode cX12_begin 356 = .ok (.iload 8, 2) := by decide +kernel
theorem dX12_begin_358 : decode cX12_begin 358 = .ok (.aload_n 0, 1) := by decide +kernel
theorem dX12_begin_359 : decode cX12_begin 359 = .ok (.getfield 7, 3) := by decide +kernel
theorem dX12_begin_362 : decode cX12_begin 362 = .ok (.iload 6, 2) := by decide +kernel
theorem dX12_begin_364 : decode cX12_begin 364 = .ok (.iconst 3, 1) := by decide +kernel
theorem dX12_begin_365 : decode cX12_begin 365 = .ok (.iadd, 1) := by decide +kernel
theorem dX12_begin_366 : decode cX12_begin 366 = .ok (.iaload, 1) := by decide +kernel
theorem dX12_begin_367 : decode cX12_begin 367 = .ok (.idiv, 1) := by decide +kernel
theorem dX12_begin_368 : decode cX12_begin 368 = .ok (.iadd, 1) := by decide +kernel
theorem dX12_begin_369 : decode cX12_begin 369 = .ok (.iload_n 2, 1) := by decide +kernel
theorem dX12_begin_370 : decode cX12_begin 370 = .ok (.if_icmp .ne 27, 3) := by decide +kernel
theorem dX12_begin_373 : decode cX12_begin 373 = .ok (.aload_n 0, 1) := by decide +kernel
theorem dX12_begin_374 : decode cX12_begin 374 = .ok (.getfield 40, 3) := by decide +kernel
theorem dX12_begin_377 : decode cX12_begin 377 = .ok (.iload 7, 2) := by decide +kernel
theorem dX12_begin_379 : decode cX12_begin 379 = .ok (.iconst 1, 1) := by decide +kernel
theorem dX12_begin_380 : decode cX12_begin 380 = .ok (.iastore, 1) := by decide +kernel
theorem dX12_begin_381 : decode cX12_begin 381 = .ok (.aload_n 0, 1) := by decide +kernel
theorem dX12_begin_382 : decode cX12_begin 382 = .ok (.getfield 25, 3) := by decide +kernel
theorem dX12_begin_385 : decode cX12_begin 385 = .ok (.iload 7, 2) := by decide +kernel
theorem dX12_begin_387 : decode cX12_begin 387 = .ok (.iconst 0, 1) := by decide +kernel
theorem dX12_begin_388 : decode cX12_begin 388 = .ok (.iastore, 1) := by decide +kernel
theorem dX12_begin_389 : decode cX12_begin 389 = .ok (.aload_n 0, 1) := by decide +kernel
theorem dX12_begin_390 : decode cX12_begin 390 = .ok (.getfield 31, 3) := by decide +kernel
theorem dX12_begin_393 : decode cX12_begin 393 = .ok (.iload 7, 2) := by decide +kernel
theorem dX12_begin_395 : decode cX12_begin 395 = .ok (.iconst 0, 1) := by decide +kernel
theorem dX12_begin_396 : decode cX12_begin 396 = .ok (.iastore, 1) := by decide +kernel
theorem dX12_begin_397 : decode cX12_begin 397 = .ok (.aload_n 0, 1) := by decide +kernel
theorem dX12_begin_398 : decode cX12_begin 398 = .ok (.iload 7, 2) := by decide +kernel
theorem dX12_begin_400 : decode cX12_begin 400 = .ok (.aload_n 0, 1) := by decide +kernel
theorem dX12_begin_401 : decode cX12_begin 401 = .ok (.getfield 7, 3) := by decide +kernel
theorem dX12_begin_404 : decode cX12_begin 404 = .ok (.iload 6, 2) := by decide +kernel
theorem dX12_begin_406 : decode cX12_begin 406 = .ok (.iconst 1, 1) := by decide +kernel
theorem dX12_begin_407 : decode cX12_begin 407 = .ok (.iadd, 1) := by decide +kernel
theorem dX12_begin_408 : decode cX12_begin 408 = .ok (.iaload, 1) := by decide +kernel
theorem dX12_begin_409 : decode cX12_begin 409 = .ok (.invokevirtual 111, 3) := by decide +kernel
theorem dX12_begin_412 : decode cX12_begin 412 = .ok (.istore 7, 2) := by decide +kernel
theorem dX12_begin_414 : decode cX12_begin 414 = .ok (.iinc 8 1, 3) := by decide +kernel
theorem dX12_begin_417 : decode cX12_begin 417 = .ok (.goto (-84), 3) := by decide +kernel
theorem dX12_begin_420 : decode cX12_begin 420 = .ok (.iinc 5 1, 3) := by decide +kernel
theorem dX12_begin_423 : decode cX12_begin 423 = .ok (.goto (-123), 3) := by decide +kernel
theorem dX12_begin_426 : decode cX12_begin 426 = .ok (.return_, 1) := by decide +kernel
theorem dX12_blow_0 : decode cX12_blow 0 = .ok (.iconst 0, 1) := by decide +kernel
theorem dX12_blow_1 : decode cX12_blow 1 = .ok (.istore_n 3, 1) := by decide +kernel
theorem dX12_blow_2 : decode cX12_blow 2 = .ok (.iconst 0, 1) := by decide +kernel
theorem dX12_blow_3 : decode cX12_blow 3 = .ok (.istore 4, 2) := by decide +kernel
theorem dX12_blow_5 : decode cX12_blow 5 = .ok (.iload 4, 2) := by decide +kernel
theorem dX12_blow_7 : decode cX12_blow 7 = .ok (.bipush 64, 2) := by decide +kernel
theorem dX12_blow_9 : decode cX12_blow 9 = .ok (.if_icmp .ge 17, 3) := by decide +kernel
theorem dX12_blow_12 : decode cX12_blow 12 = .ok (.aload_n 0, 1) := by decide +kernel
theorem dX12_blow_13 : decode cX12_blow 13 = .ok (.getfield 19, 3) := by decide +kernel
theorem dX12_blow_16 : decode cX12_blow 16 = .ok (.iload 4, 2) := by decide +kernel
theorem dX12_blow_18 : decode cX12_blow 18 = .ok (.iconst (-1), 1) := by decide +kernel
theorem dX12_blow_19 : decode cX12_blow 19 = .ok (.iastore, 1) := by decide +kernel
theorem dX12_blow_20 : decode cX12_blow 20 = .ok (.iinc 4 1, 3) := by decide +kernel
theorem dX12_blow_23 : decode cX12_blow 23 = .ok (.goto (-18), 3) := by decide +kernel
theorem dX12_blow_26 : decode cX12_blow 26 = .ok (.iconst 0, 1) := by decide +kernel
theorem dX12_blow_27 : decode cX12_blow 27 = .ok (.istore 4, 2) := by decide +kernel
theorem dX12_blow_29 : decode cX12_blow 29 = .ok (.iload 4, 2) := by decide +kernel
theorem dX12_blow_31 : decode cX12_blow 31 = .ok (.aload_n 0, 1) := by decide +kernel
theorem dX12_blow_32 : decode cX12_blow 32 = .ok (.getfield 7, 3) := by decide +kernel
theorem dX12_blow_35 : decode cX12_blow 35 = .ok (.iconst 1, 1) := by decide +kernel
theorem dX12_blow_36 : decode cX12_blow 36 = .ok (.iaload, 1) := by decide +kernel
theorem dX12_blow_37 : decode cX12_blow 37 = .ok (.if_icmp .ge 122, 3) := by decide +kernel
theorem dX12_blow_40 : decode cX12_blow 40 = .ok (.sipush 150, 3) := by decide +kernel
theorem dX12_blow_43 : decode cX12_blow 43 = .ok (.iconst 3, 1) := by decide +kernel
theorem dX12_blow_44 : decode cX12_blow 44 = .ok (.iload 4, 2) := by decide +kernel
theorem dX12_blow_46 : decode cX12_blow 46 = .ok (.imul, 1) := by decide +kernel
theorem dX12_blow_47 : decode cX12_blow 47 = .ok (.iadd, 1) := by decide +kernel
theorem dX12_blow_48 : decode cX12_blow 48 = .ok (.istore 5, 2) := by decide +kernel
