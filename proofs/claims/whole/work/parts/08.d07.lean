theorem dX12_readText_30 : decode cX12_readText 30 = .ok (.aload_n 0, 1) := by decide +kernel
theorem dX12_readText_31 : decode cX12_readText 31 = .ok (.iconst 0, 1) := by decide +kernel
theorem dX12_readText_32 : decode cX12_readText 32 = .ok (.putfield 299, 3) := by decide +kernel
theorem dX12_readText_35 : decode cX12_readText 35 = .ok (.aload_n 0, 1) := by decide +kernel
theorem dX12_readText_36 : decode cX12_readText 36 = .ok (.iconst 0, 1) := by decide +kernel
theorem dX12_readText_37 : decode cX12_readText 37 = .ok (.putfield 185, 3) := by decide +kernel
theorem dX12_readText_40 : decode cX12_readText 40 = .ok (.aload_n 0, 1) := by decide +kernel
theorem dX12_readText_41 : decode cX12_readText 41 = .ok (.invokevirtual 249, 3) := by decide +kernel
theorem dX12_readText_44 : decode cX12_readText 44 = .ok (.aload_n 0, 1) := by decide +kernel
theorem dX12_readText_45 : decode cX12_readText 45 = .ok (.getfield 194, 3) := by decide +kernel
theorem dX12_readText_48 : decode cX12_readText 48 = .ok (.ifCond .eq 17, 3) := by decide +kernel
theorem dX12_readText_51 : decode cX12_readText 51 = .ok (.aload_n 0, 1) := by decide +kernel
theorem dX12_readText_52 : decode cX12_readText 52 = .ok (.invokevirtual 308, 3) := by decide +kernel
theorem dX12_readText_55 : decode cX12_readText 55 = .ok (.istore_n 1, 1) := by decide +kernel
theorem dX12_readText_56 : decode cX12_readText 56 = .ok (.iload_n 1, 1) := by decide +kernel
theorem dX12_readText_57 : decode cX12_readText 57 = .ok (.ifCond .eq 5, 3) := by decide +kernel
theorem dX12_readText_60 : decode cX12_readText 60 = .ok (.iload_n 1, 1) := by decide +kernel
theorem dX12_readText_61 : decode cX12_readText 61 = .ok (.ireturn, 1) := by decide +kernel
theorem dX12_readText_62 : decode cX12_readText 62 = .ok (.goto (-18), 3) := by decide +kernel
theorem dX12_readText_65 : decode cX12_readText 65 = .ok (.iconst 0, 1) := by decide +kernel
theorem dX12_readText_66 : decode cX12_readText 66 = .ok (.ireturn, 1) := by decide +kernel
theorem dX12_act_0 : decode cX12_act 0 = .ok (.aload_n 0, 1) := by decide +kernel
theorem dX12_act_1 : decode cX12_act 1 = .ok (.getfield 7, 3) := by decide +kernel
theorem dX12_act_4 : decode cX12_act 4 = .ok (.bipush 8, 2) := by decide +kernel
theorem dX12_act_6 : decode cX12_act 6 = .ok (.iaload, 1) := by decide +kernel
theorem dX12_act_7 : decode cX12_act 7 = .ok (.bipush 10, 2) := by decide +kernel
theorem dX12_act_9 : decode cX12_act 9 = .ok (.if_icmp .ne 5, 3) := by decide +kernel
theorem dX12_act_12 : decode cX12_act 12 = .ok (.iconst (-1), 1) := by decide +kernel
theorem dX12_act_13 : decode cX12_act 13 = .ok (.ireturn, 1) := by decide +kernel
theorem dX12_act_14 : decode cX12_act 14 = .ok (.aload_n 0, 1) := by decide +kernel
theorem dX12_act_15 : decode cX12_act 15 = .ok (.aload_n 0, 1) := by decide +kernel
theorem dX12_act_16 : decode cX12_act 16 = .ok (.invokevirtual 311, 3) := by decide +kernel
theorem dX12_act_19 : decode cX12_act 19 = .ok (.putfield 57, 3) := by decide +kernel
theorem dX12_act_22 : decode cX12_act 22 = .ok (.aload_n 0, 1) := by decide +kernel
theorem dX12_act_23 : decode cX12_act 23 = .ok (.aload_n 0, 1) := by decide +kernel
theorem dX12_act_24 : decode cX12_act 24 = .ok (.getfield 57, 3) := by decide +kernel
theorem dX12_act_27 : decode cX12_act 27 = .ok (.ifCond .ne 7, 3) := by decide +kernel
theorem dX12_act_30 : decode cX12_act 30 = .ok (.iconst (-1), 1) := by decide +kernel
theorem dX12_act_31 : decode cX12_act 31 = .ok (.goto 7, 3) := by decide +kernel
theorem dX12_act_34 : decode cX12_act 34 = .ok (.aload_n 0, 1) := by decide +kernel
theorem dX12_act_35 : decode cX12_act 35 = .ok (.getfield 191, 3) := by decide +kernel
theorem dX12_act_38 : decode cX12_act 38 = .ok (.putfield 61, 3) := by decide +kernel
theorem dX12_act_41 : decode cX12_act 41 = .ok (.aload_n 0, 1) := by decide +kernel
theorem dX12_act_42 : decode cX12_act 42 = .ok (.iconst 0, 1) := by decide +kernel
theorem dX12_act_43 : decode cX12_act 43 = .ok (.putfield 178, 3) := by decide +kernel
theorem dX12_act_46 : decode cX12_act 46 = .ok (.aload_n 0, 1) := by decide +kernel
theorem dX12_act_47 : decode cX12_act 47 = .ok (.getfield 57, 3) := by decide +kernel
theorem dX12_act_50 : decode cX12_act 50 = .ok (.ifCond .eq 5, 3) := by decide +kernel
theorem dX12_act_53 : decode cX12_act 53 = .ok (.iconst (-1), 1) := by decide +kernel
theorem dX12_act_54 : decode cX12_act 54 = .ok (.ireturn, 1) := by decide +kernel
theorem dX12_act_55 : decode cX12_act 55 = .ok (.aload_n 0, 1) := by decide +kernel
theorem dX12_act_56 : decode cX12_act 56 = .ok (.getfield 16, 3) := by decide +kernel
theorem dX12_act_59 : decode cX12_act 59 = .ok (.aload_n 0, 1) := by decide +kernel
theorem dX12_act_60 : decode cX12_act 60 = .ok (.getfield 219, 3) := by decide +kernel
theorem dX12_act_63 : decode cX12_act 63 = .ok (.aload_n 0, 1) := by decide +kernel
theorem dX12_act_64 : decode cX12_act 64 = .ok (.getfield 302, 3) := by decide +kernel
theorem dX12_act_67 : decode cX12_act 67 = .ok (.iastore, 1) := by decide +kernel
theorem dX12_act_68 : decode cX12_act 68 = .ok (.aload_n 0, 1) := by decide +kernel
theorem dX12_act_69 : decode cX12_act 69 = .ok (.getfield 7, 3) := by decide +kernel
theorem dX12_act_72 : decode cX12_act 72 = .ok (.bipush 8, 2) := by decide +kernel
theorem dX12_act_74 : decode cX12_act 74 = .ok (.dup2, 1) := by decide +kernel
theorem dX12_act_75 : decode cX12_act 75 = .ok (.iaload, 1) := by decide +kernel
theorem dX12_act_76 : decode cX12_act 76 = .ok (.iconst 1, 1) := by decide +kernel
theorem dX12_act_77 : decode cX12_act 77 = .ok (.iadd, 1) := by decide +kernel
theorem dX12_act_78 : decode cX12_act 78 = .ok (.iastore, 1) := by decide +kernel
theorem dX12_act_79 : decode cX12_act 79 = .ok (.aload_n 0, 1) := by decide +kernel
theorem dX12_act_80 : decode cX12_act 80 = .ok (.getfield 7, 3) := by decide +kernel
theorem dX12_act_83 : decode cX12_act 83 = .ok (.bipush 8, 2) := by decide +kernel
theorem dX12_act_85 : decode cX12_act 85 = .ok (.iaload, 1) := by decide +kernel
theorem dX12_act_86 : decode cX12_act 86 = .ok (.iconst 1, 1) := by decide +kernel
theorem dX12_act_87 : decode cX12_act 87 = .ok (.isub, 1) := by decide +kernel
theorem dX12_act_88 : decode cX12_act 88 = .ok (.ireturn, 1) := by decide +kernel
theorem dX12_fault_0 : decode cX12_fault 0 = .ok (.iload_n 1, 1) := by decide +kernel
theorem dX12_fault_1 : decode cX12_fault 1 = .ok (.ifCond .ne 10, 3) := by decide +kernel
theorem dX12_fault_4 : decode cX12_fault 4 = .ok (.aload_n 0, 1) := by decide +kernel
theorem dX12_fault_5 : decode cX12_fault 5 = .ok (.getfield 57, 3) := by decide +kernel
theorem dX12_fault_8 : decode cX12_fault 8 = .ok (.goto 16, 3) := by decide +kernel
theorem dX12_fault_11 : decode cX12_fault 11 = .ok (.iload_n 1, 1) := by decide +kernel
theorem dX12_fault_12 : decode cX12_fault 12 = .ok (.iconst 1, 1) := by decide +kernel
theorem dX12_fault_13 : decode cX12_fault 13 = .ok (.if_icmp .ne 10, 3) := by decide +kernel
theorem dX12_fault_16 : decode cX12_fault 16 = .ok (.aload_n 0, 1) := by decide +kernel
theorem dX12_fault_17 : decode cX12_fault 17 = .ok (.getfield 61, 3) := by decide +kernel
theorem dX12_fault_20 : decode cX12_fault 20 = .ok (.goto 4, 3) := by decide +kernel
theorem dX12_fault_23 : decode cX12_fault 23 = .ok (.iconst (-1), 1) := by decide +kernel
theorem dX12_fault_24 : decode cX12_fault 24 = .ok (.ireturn, 1) := by decide +kernel
theorem dX12_force_0 : decode cX12_force 0 = .ok (.iload_n 1, 1) := by decide +kernel
theorem dX12_force_1 : decode cX12_force 1 = .ok (.iconst 0, 1) := by decide +kernel
theorem dX12_force_2 : decode cX12_force 2 = .ok (.aload_n 0, 1) := by decide +kernel
theorem dX12_force_3 : decode cX12_force 3 = .ok (.getfield 7, 3) := by decide +kernel
theorem dX12_force_6 : decode cX12_force 6 = .ok (.bipush 8, 2) := by decide +kernel
theorem dX12_force_8 : decode cX12_force 8 = .ok (.iaload, 1) := by decide +kernel
theorem dX12_force_9 : decode cX12_force 9 = .ok (.iconst 1, 1) := by decide +kernel
theorem dX12_force_10 : decode cX12_force 10 = .ok (.isub, 1) := by decide +kernel
theorem dX12_force_11 : decode cX12_force 11 = .ok (.invokestatic 96, 3) := by decide +kernel
theorem dX12_force_14 : decode cX12_force 14 = .ok (.ifCond .eq 44, 3) := by decide +kernel
theorem dX12_force_17 : decode cX12_force 17 = .ok (.iload_n 2, 1) := by decide +kernel
theorem dX12_force_18 : decode cX12_force 18 = .ok (.invokestatic 115, 3) := by decide +kernel
theorem dX12_force_21 : decode cX12_force 21 = .ok (.ifCond .eq 37, 3) := by decide +kernel
theorem dX12_force_24 : decode cX12_force 24 = .ok (.iload_n 3, 1) := by decide +kernel
theorem dX12_force_25 : decode cX12_force 25 = .ok (.invokestatic 115, 3) := by decide +kernel
theorem dX12_force_28 : decode cX12_force 28 = .ok (.ifCond .eq 30, 3) := by decide +kernel
theorem dX12_force_31 : decode cX12_force 31 = .ok (.iload_n 2, 1) := by decide +kernel
theorem dX12_force_32 : decode cX12_force 32 = .ok (.iload_n 3, 1) := by decide +kernel
theorem dX12_force_33 : decode cX12_force 33 = .ok (.if_icmp .gt 25, 3) := by decide +kernel
theorem dX12_force_36 : decode cX12_force 36 = .ok (.iload_n 2, 1) := by decide +kernel
theorem dX12_force_37 : decode cX12_force 37 = .ok (.aload_n 0, 1) := by decide +kernel
theorem dX12_force_38 : decode cX12_force 38 = .ok (.getfield 7, 3) := by decide +kernel
theorem dX12_force_41 : decode cX12_force 41 = .ok (.iconst 0, 1) := by decide +kernel
theorem dX12_force_42 : decode cX12_force 42 = .ok (.iaload, 1) := by decide +kernel
theorem dX12_force_43 : decode cX12_force 43 = .ok (.if_icmp .lt 15, 3) := by decide +kernel
theorem dX12_force_46 : decode cX12_force 46 = .ok (.aload_n 0, 1) := by decide +kernel
theorem dX12_force_47 : decode cX12_force 47 = .ok (.getfield 7, 3) := by decide +kernel
theorem dX12_force_50 : decode cX12_force 50 = .ok (.bipush 9, 2) := by decide +kernel
theorem dX12_force_52 : decode cX12_force 52 = .ok (.iaload, 1) := by decide +kernel
theorem dX12_force_53 : decode cX12_force 53 = .ok (.bipush 30, 2) := by decide +kernel
theorem dX12_force_55 : decode cX12_force 55 = .ok (.if_icmp .ne 5, 3) := by decide +kernel
theorem dX12_force_58 : decode cX12_force 58 = .ok (.iconst (-1), 1) := by decide +kernel
theorem dX12_force_59 : decode cX12_force 59 = .ok (.ireturn, 1) := by decide +kernel
theorem dX12_force_60 : decode cX12_force 60 = .ok (.sipush 1500, 3) := by decide +kernel
theorem dX12_force_63 : decode cX12_force 63 = .ok (.iconst 3, 1) := by decide +kernel
theorem dX12_force_64 : decode cX12_force 64 = .ok (.aload_n 0, 1) := by decide +kernel
theorem dX12_force_65 : decode cX12_force 65 = .ok (.getfield 7, 3) := by decide +kernel
theorem dX12_force_68 : decode cX12_force 68 = .ok (.bipush 9, 2) := by decide +kernel
theorem dX12_force_70 : decode cX12_force 70 = .ok (.iaload, 1) := by decide +kernel
theorem dX12_force_71 : decode cX12_force 71 = .ok (.imul, 1) := by decide +kernel
theorem dX12_force_72 : decode cX12_force 72 = .ok (.iadd, 1) := by decide +kernel
theorem dX12_force_73 : decode cX12_force 73 = .ok (.istore 4, 2) := by decide +kernel
theorem dX12_force_75 : decode cX12_force 75 = .ok (.aload_n 0, 1) := by decide +kernel
theorem dX12_force_76 : decode cX12_force 76 = .ok (.getfield 7, 3) := by decide +kernel
theorem dX12_force_79 : decode cX12_force 79 = .ok (.iload 4, 2) := by decide +kernel
theorem dX12_force_81 : decode cX12_force 81 = .ok (.iload_n 1, 1) := by decide +kernel
theorem dX12_force_82 : decode cX12_force 82 = .ok (.iastore, 1) := by decide +kernel
theorem dX12_force_83 : decode cX12_force 83 = .ok (.aload_n 0, 1) := by decide +kernel
theorem dX12_force_84 : decode cX12_force 84 = .ok (.getfield 7, 3) := by decide +kernel
theorem dX12_force_87 : decode cX12_force 87 = .ok (.iload 4, 2) := by decide +kernel
theorem dX12_force_89 : decode cX12_force 89 = .ok (.iconst 1, 1) := by decide +kernel
theorem dX12_force_90 : decode cX12_force 90 = .ok (.iadd, 1) := by decide +kernel
theorem dX12_force_91 : decode cX12_force 91 = .ok (.iload_n 2, 1) := by decide +kernel
theorem dX12_force_92 : decode cX12_force 92 = .ok (.iastore, 1) := by decide +kernel
theorem dX12_force_93 : decode cX12_force 93 = .ok (.aload_n 0, 1) := by decide +kernel
theorem dX12_force_94 : decode cX12_force 94 = .ok (.getfield 7, 3) := by decide +kernel
theorem dX12_force_97 : decode cX12_force 97 = .ok (.iload 4, 2) := by decide +kernel
theorem dX12_force_99 : decode cX12_force 99 = .ok (.iconst 2, 1) := by decide +kernel
theorem dX12_force_100 : decode cX12_force 100 = .ok (.iadd, 1) := by decide +kernel
theorem dX12_force_101 : decode cX12_force 101 = .ok (.iload_n 3, 1) := by decide +kernel
theorem dX12_force_102 : decode cX12_force 102 = .ok (.iastore, 1) := by decide +kernel
theorem dX12_force_103 : decode cX12_force 103 = .ok (.aload_n 0, 1) := by decide +kernel
theorem dX12_force_104 : decode cX12_force 104 = .ok (.getfield 7, 3) := by decide +kernel
theorem dX12_force_107 : decode cX12_force 107 = .ok (.bipush 9, 2) := by decide +kernel
theorem dX12_force_109 : decode cX12_force 109 = .ok (.dup2, 1) := by decide +kernel
theorem dX12_force_110 : decode cX12_force 110 = .ok (.iaload, 1) := by decide +kernel
theorem dX12_force_111 : decode cX12_force 111 = .ok (.iconst 1, 1) := by decide +kernel
theorem dX12_force_112 : decode cX12_force 112 = .ok (.iadd, 1) := by decide +kernel
theorem dX12_force_113 : decode cX12_force 113 = .ok (.iastore, 1) := by decide +kernel
theorem dX12_force_114 : decode cX12_force 114 = .ok (.aload_n 0, 1) := by decide +kernel
theorem dX12_force_115 : decode cX12_force 115 = .ok (.getfield 7, 3) := by decide +kernel
theorem dX12_force_118 : decode cX12_force 118 = .ok (.bipush 9, 2) := by decide +kernel
theorem dX12_force_120 : decode cX12_force 120 = .ok (.iaload, 1) := by decide +kernel
theorem dX12_force_121 : decode cX12_force 121 = .ok (.iconst 1, 1) := by decide +kernel
theorem dX12_force_122 : decode cX12_force 122 = .ok (.isub, 1) := by decide +kernel
theorem dX12_force_123 : decode cX12_force 123 = .ok (.ireturn, 1) := by decide +kernel
theorem dX12_clauseOf_0 : decode cX12_clauseOf 0 = .ok (.iload_n 3, 1) := by decide +kernel
theorem dX12_clauseOf_1 : decode cX12_clauseOf 1 = .ok (.istore 4, 2) := by decide +kernel
theorem dX12_clauseOf_3 : decode cX12_clauseOf 3 = .ok (.iload 4, 2) := by decide +kernel
theorem dX12_clauseOf_5 : decode cX12_clauseOf 5 = .ok (.aload_n 0, 1) := by decide +kernel
theorem dX12_clauseOf_6 : decode cX12_clauseOf 6 = .ok (.getfield 16, 3) := by decide +kernel
theorem dX12_clauseOf_9 : decode cX12_clauseOf 9 = .ok (.sipush 800, 3) := by decide +kernel
theorem dX12_clauseOf_12 : decode cX12_clauseOf 12 = .ok (.iload_n 1, 1) := by decide +kernel
theorem dX12_clauseOf_13 : decode cX12_clauseOf 13 = .ok (.imul, 1) := by decide +kernel
theorem dX12_clauseOf_14 : decode cX12_clauseOf 14 = .ok (.iaload, 1) := by decide +kernel
theorem dX12_clauseOf_15 : decode cX12_clauseOf 15 = .ok (.if_icmp .ge 45, 3) := by decide +kernel
theorem dX12_clauseOf_18 : decode cX12_clauseOf 18 = .ok (.aload_n 0, 1) := by decide +kernel
theorem dX12_clauseOf_19 : decode cX12_clauseOf 19 = .ok (.getfield 16, 3) := by decide +kernel
theorem dX12_clauseOf_22 : decode cX12_clauseOf 22 = .ok (.sipush 800, 3) := by decide +kernel
theorem dX12_clauseOf_25 : decode cX12_clauseOf 25 = .ok (.iload_n 1, 1) := by decide +kernel
theorem dX12_clauseOf_26 : decode cX12_clauseOf 26 = .ok (.imul, 1) := by decide +kernel
theorem dX12_clauseOf_27 : decode cX12_clauseOf 27 = .ok (.iconst 1, 1) := by decide +kernel
theorem dX12_clauseOf_28 : decode cX12_clauseOf 28 = .ok (.iadd, 1) := by decide +kernel
theorem dX12_clauseOf_29 : decode cX12_clauseOf 29 = .ok (.bipush 6, 2) := by decide +kernel
theorem dX12_clauseOf_31 : decode cX12_clauseOf 31 = .ok (.iload 4, 2) := by decide +kernel
theorem dX12_clauseOf_33 : decode cX12_clauseOf 33 = .ok (.imul, 1) := by decide +kernel
theorem dX12_clauseOf_34 : decode cX12_clauseOf 34 = .ok (.iadd, 1) := by decide +kernel
theorem dX12_clauseOf_35 : decode cX12_clauseOf 35 = .ok (.iaload, 1) := by decide +kernel
theorem dX12_clauseOf_36 : decode cX12_clauseOf 36 = .ok (.iload_n 2, 1) := by decide +kernel
theorem dX12_clauseOf_37 : decode cX12_clauseOf 37 = .ok (.if_icmp .ne 17, 3) := by decide +kernel
theorem dX12_clauseOf_40 : decode cX12_clauseOf 40 = .ok (.sipush 800, 3) := by decide +kernel
theorem dX12_clauseOf_43 : decode cX12_clauseOf 43 = .ok (.iload_n 1, 1) := by decide +kernel
theorem dX12_clauseOf_44 : decode cX12_clauseOf 44 = .ok (.imul, 1) := by decide +kernel
theorem dX12_clauseOf_45 : decode cX12_clauseOf 45 = .ok (.iconst 1, 1) := by decide +kernel
theorem dX12_clauseOf_46 : decode cX12_clauseOf 46 = .ok (.iadd, 1) := by decide +kernel
theorem dX12_clauseOf_47 : decode cX12_clauseOf 47 = .ok (.bipush 6, 2) := by decide +kernel
theorem dX12_clauseOf_49 : decode cX12_clauseOf 49 = .ok (.iload 4, 2) := by decide +kernel
theorem dX12_clauseOf_51 : decode cX12_clauseOf 51 = .ok (.imul, 1) := by decide +kernel
theorem dX12_clauseOf_52 : decode cX12_clauseOf 52 = .ok (.iadd, 1) := by decide +kernel
theorem dX12_clauseOf_53 : decode cX12_clauseOf 53 = .ok (.ireturn, 1) := by decide +kernel
theorem dX12_clauseOf_54 : decode cX12_clauseOf 54 = .ok (.iinc 4 1, 3) := by decide +kernel
theorem dX12_clauseOf_57 : decode cX12_clauseOf 57 = .ok (.goto (-54), 3) := by decide +kernel
theorem dX12_clauseOf_60 : decode cX12_clauseOf 60 = .ok (.iconst (-1), 1) := by decide +kernel
theorem dX12_clauseOf_61 : decode cX12_clauseOf 61 = .ok (.ireturn, 1) := by decide +kernel
theorem dX12_actFor_0 : decode cX12_actFor 0 = .ok (.aload_n 0, 1) := by decide +kernel
theorem dX12_actFor_1 : decode cX12_actFor 1 = .ok (.getfield 7, 3) := by decide +kernel
theorem dX12_actFor_4 : decode cX12_actFor 4 = .ok (.bipush 9, 2) := by decide +kernel
theorem dX12_actFor_6 : decode cX12_actFor 6 = .ok (.iaload, 1) := by decide +kernel
theorem dX12_actFor_7 : decode cX12_actFor 7 = .ok (.iconst 1, 1) := by decide +kernel
theorem dX12_actFor_8 : decode cX12_actFor 8 = .ok (.isub, 1) := by decide +kernel
theorem dX12_actFor_9 : decode cX12_actFor 9 = .ok (.istore_n 3, 1) := by decide +kernel
theorem dX12_actFor_10 : decode cX12_actFor 10 = .ok (.iload_n 3, 1) := by decide +kernel
theorem dX12_actFor_11 : decode cX12_actFor 11 = .ok (.ifCond .lt 67, 3) := by decide +kernel
theorem dX12_actFor_14 : decode cX12_actFor 14 = .ok (.sipush 1500, 3) := by decide +kernel
theorem dX12_actFor_17 : decode cX12_actFor 17 = .ok (.iconst 3, 1) := by decide +kernel
theorem dX12_actFor_18 : decode cX12_actFor 18 = .ok (.iload_n 3, 1) := by decide +kernel
theorem dX12_actFor_19 : decode cX12_actFor 19 = .ok (.imul, 1) := by decide +kernel
theorem dX12_actFor_20 : decode cX12_actFor 20 = .ok (.iadd, 1) := by decide +kernel
theorem dX12_actFor_21 : decode cX12_actFor 21 = .ok (.istore 4, 2) := by decide +kernel
theorem dX12_actFor_23 : decode cX12_actFor 23 = .ok (.iload_n 2, 1) := by decide +kernel
theorem dX12_actFor_24 : decode cX12_actFor 24 = .ok (.aload_n 0, 1) := by decide +kernel
theorem dX12_actFor_25 : decode cX12_actFor 25 = .ok (.getfield 7, 3) := by decide +kernel
theorem dX12_actFor_28 : decode cX12_actFor 28 = .ok (.iload 4, 2) := by decide +kernel
theorem dX12_actFor_30 : decode cX12_actFor 30 = .ok (.iconst 1, 1) := by decide +kernel
theorem dX12_actFor_31 : decode cX12_actFor 31 = .ok (.iadd, 1) := by decide +kernel
theorem dX12_actFor_32 : decode cX12_actFor 32 = .ok (.iaload, 1) := by decide +kernel
theorem dX12_actFor_33 : decode cX12_actFor 33 = .ok (.aload_n 0, 1) := by decide +kernel
theorem dX12_actFor_34 : decode cX12_actFor 34 = .ok (.getfield 7, 3) := by decide +kernel
theorem dX12_actFor_37 : decode cX12_actFor 37 = .ok (.iload 4, 2) := by decide +kernel
theorem dX12_actFor_39 : decode cX12_actFor 39 = .ok (.iconst 2, 1) := by decide +kernel
theorem dX12_actFor_40 : decode cX12_actFor 40 = .ok (.iadd, 1) := by decide +kernel
theorem dX12_actFor_41 : decode cX12_actFor 41 = .ok (.iaload, 1) := by decide +kernel
theorem dX12_actFor_42 : decode cX12_actFor 42 = .ok (.invokestatic 96, 3) := by decide +kernel
theorem dX12_actFor_45 : decode cX12_actFor 45 = .ok (.ifCond .eq 27, 3) := by decide +kernel
theorem dX12_actFor_48 : decode cX12_actFor 48 = .ok (.aload_n 0, 1) := by decide +kernel
theorem dX12_actFor_49 : decode cX12_actFor 49 = .ok (.aload_n 0, 1) := by decide +kernel
theorem dX12_actFor_50 : decode cX12_actFor 50 = .ok (.getfield 7, 3) := by decide +kernel
theorem dX12_actFor_53 : decode cX12_actFor 53 = .ok (.iload 4, 2) := by decide +kernel
theorem dX12_actFor_55 : decode cX12_actFor 55 = .ok (.iaload, 1) := by decide +kernel
theorem dX12_actFor_56 : decode cX12_actFor 56 = .ok (.iload_n 1, 1) := by decide +kernel
theorem dX12_actFor_57 : decode cX12_actFor 57 = .ok (.iconst 0, 1) := by decide +kernel
theorem dX12_actFor_58 : decode cX12_actFor 58 = .ok (.invokevirtual 314, 3) := by decide +kernel
theorem dX12_actFor_61 : decode cX12_actFor 61 = .ok (.ifCond .lt 11, 3) := by decide +kernel
theorem dX12_actFor_64 : decode cX12_actFor 64 = .ok (.aload_n 0, 1) := by decide +kernel
theorem dX12_actFor_65 : decode cX12_actFor 65 = .ok (.getfield 7, 3) := by decide +kernel
theorem dX12_actFor_68 : decode cX12_actFor 68 = .ok (.iload 4, 2) := by decide +kernel
theorem dX12_actFor_70 : decode cX12_actFor 70 = .ok (.iaload, 1) := by decide +kernel
theorem dX12_actFor_71 : decode cX12_actFor 71 = .ok (.ireturn, 1) := by decide +kernel
theorem dX12_actFor_72 : decode cX12_actFor 72 = .ok (.iinc 3 (-1), 3) := by decide +kernel
theorem dX12_actFor_75 : decode cX12_actFor 75 = .ok (.goto (-65), 3) := by decide +kernel
theorem dX12_actFor_78 : decode cX12_actFor 78 = .ok (.iconst (-1), 1) := by decide +kernel
theorem dX12_actFor_79 : decode cX12_actFor 79 = .ok (.ireturn, 1) := by decide +kernel
theorem dX12_clauseFor_0 : decode cX12_clauseFor 0 = .ok (.aload_n 0, 1) := by decide +kernel
theorem dX12_clauseFor_1 : decode cX12_clauseFor 1 = .ok (.iload_n 1, 1) := by decide +kernel
theorem dX12_clauseFor_2 : decode cX12_clauseFor 2 = .ok (.iload_n 2, 1) := by decide +kernel
theorem dX12_clauseFor_3 : decode cX12_clauseFor 3 = .ok (.invokevirtual 317, 3) := by decide +kernel
theorem dX12_clauseFor_6 : decode cX12_clauseFor 6 = .ok (.istore_n 3, 1) := by decide +kernel
theorem dX12_clauseFor_7 : decode cX12_clauseFor 7 = .ok (.iload_n 3, 1) := by decide +kernel
theorem dX12_clauseFor_8 : decode cX12_clauseFor 8 = .ok (.ifCond .ge 7, 3) := by decide +kernel
theorem dX12_clauseFor_11 : decode cX12_clauseFor 11 = .ok (.iconst (-1), 1) := by decide +kernel
theorem dX12_clauseFor_12 : decode cX12_clauseFor 12 = .ok (.goto 10, 3) := by decide +kernel
theorem dX12_clauseFor_15 : decode cX12_clauseFor 15 = .ok (.aload_n 0, 1) := by decide +kernel
theorem dX12_clauseFor_16 : decode cX12_clauseFor 16 = .ok (.iload_n 3, 1) := by decide +kernel
theorem dX12_clauseFor_17 : decode cX12_clauseFor 17 = .ok (.iload_n 1, 1) := by decide +kernel
theorem dX12_clauseFor_18 : decode cX12_clauseFor 18 = .ok (.iconst 0, 1) := by decide +kernel
theorem dX12_clauseFor_19 : decode cX12_clauseFor 19 = .ok (.invokevirtual 314, 3) := by decide +kernel
theorem dX12_clauseFor_22 : decode cX12_clauseFor 22 = .ok (.ireturn, 1) := by decide +kernel
theorem dX12_clip_0 : decode cX12_clip 0 = .ok (.lload_n 0, 1) := by decide +kernel
theorem dX12_clip_1 : decode cX12_clip 1 = .ok (.ldc2_w 320, 3) := by decide +kernel
theorem dX12_clip_4 : decode cX12_clip 4 = .ok (.lcmp, 1) := by decide +kernel
theorem dX12_clip_5 : decode cX12_clip 5 = .ok (.ifCond .le 9, 3) := by decide +kernel
theorem dX12_clip_8 : decode cX12_clip 8 = .ok (.ldc2_w 320, 3) := by decide +kernel
theorem dX12_clip_11 : decode cX12_clip 11 = .ok (.goto 18, 3) := by decide +kernel
theorem dX12_clip_14 : decode cX12_clip 14 = .ok (.lload_n 0, 1) := by decide +kernel
theorem dX12_clip_15 : decode cX12_clip 15 = .ok (.ldc2_w 322, 3) := by decide +kernel
theorem dX12_clip_18 : decode cX12_clip 18 = .ok (.lcmp, 1) := by decide +kernel
theorem dX12_clip_19 : decode cX12_clip 19 = .ok (.ifCond .ge 9, 3) := by decide +kernel
theorem dX12_clip_22 : decode cX12_clip 22 = .ok (.ldc2_w 322, 3) := by decide +kernel
theorem dX12_clip_25 : decode cX12_clip 25 = .ok (.goto 4, 3) := by decide +kernel
theorem dX12_clip_28 : decode cX12_clip 28 = .ok (.lload_n 0, 1) := by decide +kernel
theorem dX12_clip_29 : decode cX12_clip 29 = .ok (.lreturn, 1) := by decide +kernel
theorem dX12_two_0 : decode cX12_two 0 = .ok (.iload_n 0, 1) := by decide +kernel
theorem dX12_two_1 : decode cX12_two 1 = .ok (.tableswitch 48 3 5 #[27, 34, 41], 27) := by decide +kernel
theorem dX12_two_28 : decode cX12_two 28 = .ok (.lload_n 1, 1) := by decide +kernel
theorem dX12_two_29 : decode cX12_two 29 = .ok (.lload_n 3, 1) := by decide +kernel
theorem dX12_two_30 : decode cX12_two 30 = .ok (.ladd, 1) := by decide +kernel
theorem dX12_two_31 : decode cX12_two 31 = .ok (.invokestatic 324, 3) := by decide +kernel
theorem dX12_two_34 : decode cX12_two 34 = .ok (.lreturn, 1) := by decide +kernel
theorem dX12_two_35 : decode cX12_two 35 = .ok (.lload_n 1, 1) := by decide +kernel
theorem dX12_two_36 : decode cX12_two 36 = .ok (.lload_n 3, 1) := by decide +kernel
theorem dX12_two_37 : decode cX12_two 37 = .ok (.lsub, 1) := by decide +kernel
theorem dX12_two_38 : decode cX12_two 38 = .ok (.invokestatic 324, 3) := by decide +kernel
theorem dX12_two_41 : decode cX12_two 41 = .ok (.lreturn, 1) := by decide +kernel
theorem dX12_two_42 : decode cX12_two 42 = .ok (.lload_n 1, 1) := by decide +kernel
theorem dX12_two_43 : decode cX12_two 43 = .ok (.lload_n 3, 1) := by decide +kernel
theorem dX12_two_44 : decode cX12_two 44 = .ok (.lmul, 1) := by decide +kernel
theorem dX12_two_45 : decode cX12_two 45 = .ok (.invokestatic 324, 3) := by decide +kernel
theorem dX12_two_48 : decode cX12_two 48 = .ok (.lreturn, 1) := by decide +kernel
theorem dX12_two_49 : decode cX12_two 49 = .ok (.lload_n 3, 1) := by decide +kernel
theorem dX12_two_50 : decode cX12_two 50 = .ok (.lconst 0, 1) := by decide +kernel
theorem dX12_two_51 : decode cX12_two 51 = .ok (.lcmp, 1) := by decide +kernel
theorem dX12_two_52 : decode cX12_two 52 = .ok (.ifCond .ne 7, 3) := by decide +kernel
theorem dX12_two_55 : decode cX12_two 55 = .ok (.lconst 0, 1) := by decide +kernel
theorem dX12_two_56 : decode cX12_two 56 = .ok (.goto 9, 3) := by decide +kernel
theorem dX12_two_59 : decode cX12_two 59 = .ok (.lload_n 1, 1) := by decide +kernel
theorem dX12_two_60 : decode cX12_two 60 = .ok (.lload_n 3, 1) := by decide +kernel
theorem dX12_two_61 : decode cX12_two 61 = .ok (.ldiv, 1) := by decide +kernel
theorem dX12_two_62 : decode cX12_two 62 = .ok (.invokestatic 324, 3) := by decide +kernel
theorem dX12_two_65 : decode cX12_two 65 = .ok (.lreturn, 1) := by decide +kernel
theorem dX12_isAsked_0 : decode cX12_isAsked 0 = .ok (.iload_n 0, 1) := by decide +kernel
theorem dX12_isAsked_1 : decode cX12_isAsked 1 = .ok (.bipush 10, 2) := by decide +kernel
theorem dX12_isAsked_3 : decode cX12_isAsked 3 = .ok (.if_icmp .ne 17, 3) := by decide +kernel
theorem dX12_isAsked_6 : decode cX12_isAsked 6 = .ok (.lload_n 1, 1) := by decide +kernel
theorem dX12_isAsked_7 : decode cX12_isAsked 7 = .ok (.lload_n 3, 1) := by decide +kernel
theorem dX12_isAsked_8 : decode cX12_isAsked 8 = .ok (.lcmp, 1) := by decide +kernel
theorem dX12_isAsked_9 : decode cX12_isAsked 9 = .ok (.ifCond .ge 7, 3) := by decide +kernel
theorem dX12_isAsked_12 : decode cX12_isAsked 12 = .ok (.iconst 1, 1) := by decide +kernel
theorem dX12_isAsked_13 : decode cX12_isAsked 13 = .ok (.goto 98, 3) := by decide +kernel
theorem dX12_isAsked_16 : decode cX12_isAsked 16 = .ok (.iconst 0, 1) := by decide +kernel
theorem dX12_isAsked_17 : decode cX12_isAsked 17 = .ok (.goto 94, 3) := by decide +kernel
theorem dX12_isAsked_20 : decode cX12_isAsked 20 = .ok (.iload_n 0, 1) := by decide +kernel
theorem dX12_isAsked_21 : decode cX12_isAsked 21 = .ok (.bipush 11, 2) := by decide +kernel
theorem dX12_isAsked_23 : decode cX12_isAsked 23 = .ok (.if_icmp .ne 17, 3) := by decide +kernel
theorem dX12_isAsked_26 : decode cX12_isAsked 26 = .ok (.lload_n 1, 1) := by decide +kernel
theorem dX12_isAsked_27 : decode cX12_isAsked 27 = .ok (.lload_n 3, 1) := by decide +kernel
theorem dX12_isAsked_28 : decode cX12_isAsked 28 = .ok (.lcmp, 1) := by decide +kernel
theorem dX12_isAsked_29 : decode cX12_isAsked 29 = .ok (.ifCond .gt 7, 3) := by decide +kernel
theorem dX12_isAsked_32 : decode cX12_isAsked 32 = .ok (.iconst 1, 1) := by decide +kernel
theorem dX12_isAsked_33 : decode cX12_isAsked 33 = .ok (.goto 78, 3) := by decide +kernel
theorem dX12_isAsked_36 : decode cX12_isAsked 36 = .ok (.iconst 0, 1) := by decide +kernel
theorem dX12_isAsked_37 : decode cX12_isAsked 37 = .ok (.goto 74, 3) := by decide +kernel
theorem dX12_isAsked_40 : decode cX12_isAsked 40 = .ok (.iload_n 0, 1) := by decide +kernel
theorem dX12_isAsked_41 : decode cX12_isAsked 41 = .ok (.bipush 12, 2) := by decide +kernel
theorem dX12_isAsked_43 : decode cX12_isAsked 43 = .ok (.if_icmp .ne 17, 3) := by decide +kernel
theorem dX12_isAsked_46 : decode cX12_isAsked 46 = .ok (.lload_n 1, 1) := by decide +kernel
theorem dX12_isAsked_47 : decode cX12_isAsked 47 = .ok (.lload_n 3, 1) := by decide +kernel
theorem dX12_isAsked_48 : decode cX12_isAsked 48 = .ok (.lcmp, 1) := by decide +kernel
theorem dX12_isAsked_49 : decode cX12_isAsked 49 = .ok (.ifCond .le 7, 3) := by decide +kernel
theorem dX12_isAsked_52 : decode cX12_isAsked 52 = .ok (.iconst 1, 1) := by decide +kernel
theorem dX12_isAsked_53 : decode cX12_isAsked 53 = .ok (.goto 58, 3) := by decide +kernel
theorem dX12_isAsked_56 : decode cX12_isAsked 56 = .ok (.iconst 0, 1) := by decide +kernel
theorem dX12_isAsked_57 : decode cX12_isAsked 57 = .ok (.goto 54, 3) := by decide +kernel
theorem dX12_isAsked_60 : decode cX12_isAsked 60 = .ok (.iload_n 0, 1) := by decide +kernel
theorem dX12_isAsked_61 : decode cX12_isAsked 61 = .ok (.bipush 13, 2) := by decide +kernel
theorem dX12_isAsked_63 : decode cX12_isAsked 63 = .ok (.if_icmp .ne 17, 3) := by decide +kernel
theorem dX12_isAsked_66 : decode cX12_isAsked 66 = .ok (.lload_n 1, 1) := by decide +kernel
theorem dX12_isAsked_67 : decode cX12_isAsked 67 = .ok (.lload_n 3, 1) := by decide +kernel
theorem dX12_isAsked_68 : decode cX12_isAsked 68 = .ok (.lcmp, 1) := by decide +kernel
theorem dX12_isAsked_69 : decode cX12_isAsked 69 = .ok (.ifCond .lt 7, 3) := by decide +kernel
theorem dX12_isAsked_72 : decode cX12_isAsked 72 = .ok (.iconst 1, 1) := by decide +kernel
theorem dX12_isAsked_73 : decode cX12_isAsked 73 = .ok (.goto 38, 3) := by decide +kernel
theorem dX12_isAsked_76 : decode cX12_isAsked 76 = .ok (.iconst 0, 1) := by decide +kernel
theorem dX12_isAsked_77 : decode cX12_isAsked 77 = .ok (.goto 34, 3) := by decide +kernel
theorem dX12_isAsked_80 : decode cX12_isAsked 80 = .ok (.iload_n 0, 1) := by decide +kernel
theorem dX12_isAsked_81 : decode cX12_isAsked 81 = .ok (.bipush 14, 2) := by decide +kernel
theorem dX12_isAsked_83 : decode cX12_isAsked 83 = .ok (.if_icmp .ne 17, 3) := by decide +kernel
theorem dX12_isAsked_86 : decode cX12_isAsked 86 = .ok (.lload_n 1, 1) := by decide +kernel
theorem dX12_isAsked_87 : decode cX12_isAsked 87 = .ok (.lload_n 3, 1) := by decide +kernel
theorem dX12_isAsked_88 : decode cX12_isAsked 88 = .ok (.lcmp, 1) := by decide +kernel
theorem dX12_isAsked_89 : decode cX12_isAsked 89 = .ok (.ifCond .ne 7, 3) := by decide +kernel
theorem dX12_isAsked_92 : decode cX12_isAsked 92 = .ok (.iconst 1, 1) := by decide +kernel
theorem dX12_isAsked_93 : decode cX12_isAsked 93 = .ok (.goto 18, 3) := by decide +kernel
theorem dX12_isAsked_96 : decode cX12_isAsked 96 = .ok (.iconst 0, 1) := by decide +kernel
theorem dX12_isAsked_97 : decode cX12_isAsked 97 = .ok (.goto 14, 3) := by decide +kernel
theorem dX12_isAsked_100 : decode cX12_isAsked 100 = .ok (.lload_n 1, 1) := by decide +kernel
theorem dX12_isAsked_101 : decode cX12_isAsked 101 = .ok (.lload_n 3, 1) := by decide +kernel
theorem dX12_isAsked_102 : decode cX12_isAsked 102 = .ok (.lcmp, 1) := by decide +kernel
theorem dX12_isAsked_103 : decode cX12_isAsked 103 = .ok (.ifCond .eq 7, 3) := by decide +kernel
theorem dX12_isAsked_106 : decode cX12_isAsked 106 = .ok (.iconst 1, 1) := by decide +kernel
theorem dX12_isAsked_107 : decode cX12_isAsked 107 = .ok (.goto 4, 3) := by decide +kernel
theorem dX12_isAsked_110 : decode cX12_isAsked 110 = .ok (.iconst 0, 1) := by decide +kernel
theorem dX12_isAsked_111 : decode cX12_isAsked 111 = .ok (.ireturn, 1) := by decide +kernel
theorem dX12_work_0 : decode cX12_work 0 = .ok (.iconst 0, 1) := by decide +kernel
theorem dX12_work_1 : decode cX12_work 1 = .ok (.istore_n 2, 1) := by decide +kernel
theorem dX12_work_2 : decode cX12_work 2 = .ok (.iconst 0, 1) := by decide +kernel
theorem dX12_work_3 : decode cX12_work 3 = .ok (.istore_n 3, 1) := by decide +kernel
theorem dX12_work_4 : decode cX12_work 4 = .ok (.iload_n 1, 1) := by decide +kernel
theorem dX12_work_5 : decode cX12_work 5 = .ok (.sipush 800, 3) := by decide +kernel
theorem dX12_work_8 : decode cX12_work 8 = .ok (.idiv, 1) := by decide +kernel
theorem dX12_work_9 : decode cX12_work 9 = .ok (.sipush 800, 3) := by decide +kernel
theorem dX12_work_12 : decode cX12_work 12 = .ok (.imul, 1) := by decide +kernel
theorem dX12_work_13 : decode cX12_work 13 = .ok (.sipush 130, 3) := by decide +kernel
theorem dX12_work_16 : decode cX12_work 16 = .ok (.iadd, 1) := by decide +kernel
theorem dX12_work_17 : decode cX12_work 17 = .ok (.istore 4, 2) := by decide +kernel
theorem dX12_work_19 : decode cX12_work 19 = .ok (.aload_n 0, 1) := by decide +kernel
theorem dX12_work_20 : decode cX12_work 20 = .ok (.getfield 16, 3) := by decide +kernel
theorem dX12_work_23 : decode cX12_work 23 = .ok (.iload_n 1, 1) := by decide +kernel
theorem dX12_work_24 : decode cX12_work 24 = .ok (.iconst 4, 1) := by decide +kernel
theorem dX12_work_25 : decode cX12_work 25 = .ok (.iadd, 1) := by decide +kernel
theorem dX12_work_26 : decode cX12_work 26 = .ok (.iaload, 1) := by decide +kernel
theorem dX12_work_27 : decode cX12_work 27 = .ok (.istore 5, 2) := by decide +kernel
theorem dX12_work_29 : decode cX12_work 29 = .ok (.iload 5, 2) := by decide +kernel
theorem dX12_work_31 : decode cX12_work 31 = .ok (.aload_n 0, 1) := by decide +kernel
theorem dX12_work_32 : decode cX12_work 32 = .ok (.getfield 16, 3) := by decide +kernel
theorem dX12_work_35 : decode cX12_work 35 = .ok (.iload_n 1, 1) := by decide +kernel
theorem dX12_work_36 : decode cX12_work 36 = .ok (.iconst 5, 1) := by decide +kernel
theorem dX12_work_37 : decode cX12_work 37 = .ok (.iadd, 1) := by decide +kernel
theorem dX12_work_38 : decode cX12_work 38 = .ok (.iaload, 1) := by decide +kernel
theorem dX12_work_39 : decode cX12_work 39 = .ok (.if_icmp .ge 288, 3) := by decide +kernel
theorem dX12_work_42 : decode cX12_work 42 = .ok (.aload_n 0, 1) := by decide +kernel
theorem dX12_work_43 : decode cX12_work 43 = .ok (.getfield 16, 3) := by decide +kernel
theorem dX12_work_46 : decode cX12_work 46 = .ok (.iload 4, 2) := by decide +kernel
theorem dX12_work_48 : decode cX12_work 48 = .ok (.iconst 2, 1) := by decide +kernel
theorem dX12_work_49 : decode cX12_work 49 = .ok (.iload 5, 2) := by decide +kernel
theorem dX12_work_51 : decode cX12_work 51 = .ok (.imul, 1) := by decide +kernel
theorem dX12_work_52 : decode cX12_work 52 = .ok (.iadd, 1) := by decide +kernel
theorem dX12_work_53 : decode cX12_work 53 = .ok (.iaload, 1) := by decide +kernel
theorem dX12_work_54 : decode cX12_work 54 = .ok (.istore 6, 2) := by decide +kernel
theorem dX12_work_56 : decode cX12_work 56 = .ok (.aload_n 0, 1) := by decide +kernel
theorem dX12_work_57 : decode cX12_work 57 = .ok (.getfield 16, 3) := by decide +kernel
theorem dX12_work_60 : decode cX12_work 60 = .ok (.iload 4, 2) := by decide +kernel
theorem dX12_work_62 : decode cX12_work 62 = .ok (.iconst 2, 1) := by decide +kernel
theorem dX12_work_63 : decode cX12_work 63 = .ok (.iload 5, 2) := by decide +kernel
theorem dX12_work_65 : decode cX12_work 65 = .ok (.imul, 1) := by decide +kernel
theorem dX12_work_66 : decode cX12_work 66 = .ok (.iadd, 1) := by decide +kernel
theorem dX12_work_67 : decode cX12_work 67 = .ok (.iconst 1, 1) := by decide +kernel
theorem dX12_work_68 : decode cX12_work 68 = .ok (.iadd, 1) := by decide +kernel
theorem dX12_work_69 : decode cX12_work 69 = .ok (.iaload, 1) := by decide +kernel
theorem dX12_work_70 : decode cX12_work 70 = .ok (.istore 7, 2) := by decide +kernel
theorem dX12_work_72 : decode cX12_work 72 = .ok (.iload 6, 2) := by decide +kernel
theorem dX12_work_74 : decode cX12_work 74 = .ok (.iconst 1, 1) := by decide +kernel
theorem dX12_work_75 : decode cX12_work 75 = .ok (.if_icmp .gt 34, 3) := by decide +kernel
theorem dX12_work_78 : decode cX12_work 78 = .ok (.aload_n 0, 1) := by decide +kernel
theorem dX12_work_79 : decode cX12_work 79 = .ok (.getfield 70, 3) := by decide +kernel
theorem dX12_work_82 : decode cX12_work 82 = .ok (.iload_n 2, 1) := by decide +kernel
theorem dX12_work_83 : decode cX12_work 83 = .ok (.iload 6, 2) := by decide +kernel
theorem dX12_work_85 : decode cX12_work 85 = .ok (.ifCond .ne 9, 3) := by decide +kernel
theorem dX12_work_88 : decode cX12_work 88 = .ok (.iload 7, 2) := by decide +kernel
theorem dX12_work_90 : decode cX12_work 90 = .ok (.i2l, 1) := by decide +kernel
theorem dX12_work_91 : decode cX12_work 91 = .ok (.goto 11, 3) := by decide +kernel
theorem dX12_work_94 : decode cX12_work 94 = .ok (.aload_n 0, 1) := by decide +kernel
theorem dX12_work_95 : decode cX12_work 95 = .ok (.getfield 67, 3) := by decide +kernel
theorem dX12_work_98 : decode cX12_work 98 = .ok (.iload 7, 2) := by decide +kernel
theorem dX12_work_100 : decode cX12_work 100 = .ok (.iaload, 1) := by decide +kernel
theorem dX12_work_101 : decode cX12_work 101 = .ok (.i2l, 1) := by decide +kernel
theorem dX12_work_102 : decode cX12_work 102 = .ok (.lastore, 1) := by decide +kernel
theorem dX12_work_103 : decode cX12_work 103 = .ok (.iinc 2 1, 3) := by decide +kernel
theorem dX12_work_106 : decode cX12_work 106 = .ok (.goto 215, 3) := by decide +kernel
theorem dX12_work_109 : decode cX12_work 109 = .ok (.iload 6, 2) := by decide +kernel
theorem dX12_work_111 : decode cX12_work 111 = .ok (.iconst 2, 1) := by decide +kernel
theorem dX12_work_112 : decode cX12_work 112 = .ok (.if_icmp .ne 23, 3) := by decide +kernel
theorem dX12_work_115 : decode cX12_work 115 = .ok (.aload_n 0, 1) := by decide +kernel
theorem dX12_work_116 : decode cX12_work 116 = .ok (.getfield 70, 3) := by decide +kernel
theorem dX12_work_119 : decode cX12_work 119 = .ok (.iload_n 2, 1) := by decide +kernel
theorem dX12_work_120 : decode cX12_work 120 = .ok (.iconst 1, 1) := by decide +kernel
theorem dX12_work_121 : decode cX12_work 121 = .ok (.isub, 1) := by decide +kernel
theorem dX12_work_122 : decode cX12_work 122 = .ok (.aload_n 0, 1) := by decide +kernel
theorem dX12_work_123 : decode cX12_work 123 = .ok (.getfield 70, 3) := by decide +kernel
theorem dX12_work_126 : decode cX12_work 126 = .ok (.iload_n 2, 1) := by decide +kernel
theorem dX12_work_127 : decode cX12_work 127 = .ok (.iconst 1, 1) := by decide +kernel
theorem dX12_work_128 : decode cX12_work 128 = .ok (.isub, 1) := by decide +kernel
theorem dX12_work_129 : decode cX12_work 129 = .ok (.laload, 1) := by decide +kernel
theorem dX12_work_130 : decode cX12_work 130 = .ok (.lneg, 1) := by decide +kernel
theorem dX12_work_131 : decode cX12_work 131 = .ok (.lastore, 1) := by decide +kernel
theorem dX12_work_132 : decode cX12_work 132 = .ok (.goto 189, 3) := by decide +kernel
theorem dX12_work_135 : decode cX12_work 135 = .ok (.iload 6, 2) := by decide +kernel
theorem dX12_work_137 : decode cX12_work 137 = .ok (.bipush 10, 2) := by decide +kernel
theorem dX12_work_139 : decode cX12_work 139 = .ok (.if_icmp .ge 36, 3) := by decide +kernel
theorem dX12_work_142 : decode cX12_work 142 = .ok (.iinc 2 (-1), 3) := by decide +kernel
theorem dX12_work_145 : decode cX12_work 145 = .ok (.aload_n 0, 1) := by decide +kernel
theorem dX12_work_146 : decode cX12_work 146 = .ok (.getfield 70, 3) := by decide +kernel
theorem dX12_work_149 : decode cX12_work 149 = .ok (.iload_n 2, 1) := by decide +kernel
theorem dX12_work_150 : decode cX12_work 150 = .ok (.iconst 1, 1) := by decide +kernel
theorem dX12_work_151 : decode cX12_work 151 = .ok (.isub, 1) := by decide +kernel
theorem dX12_work_152 : decode cX12_work 152 = .ok (.iload 6, 2) := by decide +kernel
theorem dX12_work_154 : decode cX12_work 154 = .ok (.aload_n 0, 1) := by decide +kernel
theorem dX12_work_155 : decode cX12_work 155 = .ok (.getfield 70, 3) := by decide +kernel
theorem dX12_work_158 : decode cX12_work 158 = .ok (.iload_n 2, 1) := by decide +kernel
theorem dX12_work_159 : decode cX12_work 159 = .ok (.iconst 1, 1) := by decide +kernel
theorem dX12_work_160 : decode cX12_work 160 = .ok (.isub, 1) := by decide +kernel
theorem dX12_work_161 : decode cX12_work 161 = .ok (.laload, 1) := by decide +kernel
theorem dX12_work_162 : decode cX12_work 162 = .ok (.aload_n 0, 1) := by decide +kernel
theorem dX12_work_163 : decode cX12_work 163 = .ok (.getfield 70, 3) := by decide +kernel
theorem dX12_work_166 : decode cX12_work 166 = .ok (.iload_n 2, 1) := by decide +kernel
theorem dX12_work_167 : decode cX12_work 167 = .ok (.laload, 1) := by decide +kernel
theorem dX12_work_168 : decode cX12_work 168 = .ok (.invokestatic 328, 3) := by decide +kernel
theorem dX12_work_171 : decode cX12_work 171 = .ok (.lastore, 1) := by decide +kernel
theorem dX12_work_172 : decode cX12_work 172 = .ok (.goto 149, 3) := by decide +kernel
theorem dX12_work_175 : decode cX12_work 175 = .ok (.iload 6, 2) := by decide +kernel
theorem dX12_work_177 : decode cX12_work 177 = .ok (.bipush 20, 2) := by decide +kernel
theorem dX12_work_179 : decode cX12_work 179 = .ok (.if_icmp .ge 37, 3) := by decide +kernel
theorem dX12_work_182 : decode cX12_work 182 = .ok (.iinc 2 (-2), 3) := by decide +kernel
theorem dX12_work_185 : decode cX12_work 185 = .ok (.aload_n 0, 1) := by decide +kernel
theorem dX12_work_186 : decode cX12_work 186 = .ok (.getfield 74, 3) := by decide +kernel
theorem dX12_work_189 : decode cX12_work 189 = .ok (.iload_n 3, 1) := by decide +kernel
theorem dX12_work_190 : decode cX12_work 190 = .ok (.iload 6, 2) := by decide +kernel
theorem dX12_work_192 : decode cX12_work 192 = .ok (.aload_n 0, 1) := by decide +kernel
theorem dX12_work_193 : decode cX12_work 193 = .ok (.getfield 70, 3) := by decide +kernel
theorem dX12_work_196 : decode cX12_work 196 = .ok (.iload_n 2, 1) := by decide +kernel
theorem dX12_work_197 : decode cX12_work 197 = .ok (.laload, 1) := by decide +kernel
theorem dX12_work_198 : decode cX12_work 198 = .ok (.aload_n 0, 1) := by decide +kernel
theorem dX12_work_199 : decode cX12_work 199 = .ok (.getfield 70, 3) := by decide +kernel
theorem dX12_work_202 : decode cX12_work 202 = .ok (.iload_n 2, 1) := by decide +kernel
theorem dX12_work_203 : decode cX12_work 203 = .ok (.iconst 1, 1) := by decide +kernel
theorem dX12_work_204 : decode cX12_work 204 = .ok (.iadd, 1) := by decide +kernel
theorem dX12_work_205 : decode cX12_work 205 = .ok (.laload, 1) := by decide +kernel
theorem dX12_work_206 : decode cX12_work 206 = .ok (.invokestatic 332, 3) := by decide +kernel
theorem dX12_work_209 : decode cX12_work 209 = .ok (.bastore, 1) := by decide +kernel
theorem dX12_work_210 : decode cX12_work 210 = .ok (.iinc 3 1, 3) := by decide +kernel
theorem dX12_work_213 : decode cX12_work 213 = .ok (.goto 108, 3) := by decide +kernel
theorem dX12_work_216 : decode cX12_work 216 = .ok (.iload 6, 2) := by decide +kernel
theorem dX12_work_218 : decode cX12_work 218 = .ok (.bipush 20, 2) := by decide +kernel
theorem dX12_work_220 : decode cX12_work 220 = .ok (.if_icmp .ne 30, 3) := by decide +kernel
theorem dX12_work_223 : decode cX12_work 223 = .ok (.aload_n 0, 1) := by decide +kernel
theorem dX12_work_224 : decode cX12_work 224 = .ok (.getfield 74, 3) := by decide +kernel
theorem dX12_work_227 : decode cX12_work 227 = .ok (.iload_n 3, 1) := by decide +kernel
theorem dX12_work_228 : decode cX12_work 228 = .ok (.iconst 1, 1) := by decide +kernel
theorem dX12_work_229 : decode cX12_work 229 = .ok (.isub, 1) := by decide +kernel
theorem dX12_work_230 : decode cX12_work 230 = .ok (.aload_n 0, 1) := by decide +kernel
theorem dX12_work_231 : decode cX12_work 231 = .ok (.getfield 74, 3) := by decide +kernel
theorem dX12_work_234 : decode cX12_work 234 = .ok (.iload_n 3, 1) := by decide +kernel
theorem dX12_work_235 : decode cX12_work 235 = .ok (.iconst 1, 1) := by decide +kernel
theorem dX12_work_236 : decode cX12_work 236 = .ok (.isub, 1) := by decide +kernel
theorem dX12_work_237 : decode cX12_work 237 = .ok (.baload, 1) := by decide +kernel
theorem dX12_work_238 : decode cX12_work 238 = .ok (.ifCond .ne 7, 3) := by decide +kernel
theorem dX12_work_241 : decode cX12_work 241 = .ok (.iconst 1, 1) := by decide +kernel
theorem dX12_work_242 : decode cX12_work 242 = .ok (.goto 4, 3) := by decide +kernel
theorem dX12_work_245 : decode cX12_work 245 = .ok (.iconst 0, 1) := by decide +kernel
theorem dX12_work_246 : decode cX12_work 246 = .ok (.bastore, 1) := by decide +kernel
theorem dX12_work_247 : decode cX12_work 247 = .ok (.goto 74, 3) := by decide +kernel
theorem dX12_work_250 : decode cX12_work 250 = .ok (.iinc 3 (-1), 3) := by decide +kernel
theorem dX12_work_253 : decode cX12_work 253 = .ok (.aload_n 0, 1) := by decide +kernel
theorem dX12_work_254 : decode cX12_work 254 = .ok (.getfield 74, 3) := by decide +kernel
theorem dX12_work_257 : decode cX12_work 257 = .ok (.iload_n 3, 1) := by decide +kernel
theorem dX12_work_258 : decode cX12_work 258 = .ok (.iconst 1, 1) := by decide +kernel
theorem dX12_work_259 : decode cX12_work 259 = .ok (.isub, 1) := by decide +kernel
theorem dX12_work_260 : decode cX12_work 260 = .ok (.iload 6, 2) := by decide +kernel
theorem dX12_work_262 : decode cX12_work 262 = .ok (.bipush 21, 2) := by decide +kernel
theorem dX12_work_264 : decode cX12_work 264 = .ok (.if_icmp .ne 31, 3) := by decide +kernel
theorem dX12_work_267 : decode cX12_work 267 = .ok (.aload_n 0, 1) := by decide +kernel
theorem dX12_work_268 : decode cX12_work 268 = .ok (.getfield 74, 3) := by decide +kernel
theorem dX12_work_271 : decode cX12_work 271 = .ok (.iload_n 3, 1) := by decide +kernel
theorem dX12_work_272 : decode cX12_work 272 = .ok (.iconst 1, 1) := by decide +kernel
theorem dX12_work_273 : decode cX12_work 273 = .ok (.isub, 1) := by decide +kernel
theorem dX12_work_274 : decode cX12_work 274 = .ok (.baload, 1) := by decide +kernel
theorem dX12_work_275 : decode cX12_work 275 = .ok (.ifCond .eq 16, 3) := by decide +kernel
theorem dX12_work_278 : decode cX12_work 278 = .ok (.aload_n 0, 1) := by decide +kernel
theorem dX12_work_279 : decode cX12_work 279 = .ok (.getfield 74, 3) := by decide +kernel
theorem dX12_work_282 : decode cX12_work 282 = .ok (.iload_n 3, 1) := by decide +kernel
theorem dX12_work_283 : decode cX12_work 283 = .ok (.baload, 1) := by decide +kernel
theorem dX12_work_284 : decode cX12_work 284 = .ok (.ifCond .eq 7, 3) := by decide +kernel
theorem dX12_work_287 : decode cX12_work 287 = .ok (.iconst 1, 1) := by decide +kernel
theorem dX12_work_288 : decode cX12_work 288 = .ok (.goto 32, 3) := by decide +kernel
theorem dX12_work_291 : decode cX12_work 291 = .ok (.iconst 0, 1) := by decide +kernel
theorem dX12_work_292 : decode cX12_work 292 = .ok (.goto 28, 3) := by decide +kernel
theorem dX12_work_295 : decode cX12_work 295 = .ok (.aload_n 0, 1) := by decide +kernel
theorem dX12_work_296 : decode cX12_work 296 = .ok (.getfield 74, 3) := by decide +kernel
theorem dX12_work_299 : decode cX12_work 299 = .ok (.iload_n 3, 1) := by decide +kernel
theorem dX12_work_300 : decode cX12_work 300 = .ok (.iconst 1, 1) := by decide +kernel
theorem dX12_work_301 : decode cX12_work 301 = .ok (.isub, 1) := by decide +kernel
theorem dX12_work_302 : decode cX12_work 302 = .ok (.baload, 1) := by decide +kernel
theorem dX12_work_303 : decode cX12_work 303 = .ok (.ifCond .ne 12, 3) := by decide +kernel
theorem dX12_work_306 : decode cX12_work 306 = .ok (.aload_n 0, 1) := by decide +kernel
theorem dX12_work_307 : decode cX12_work 307 = .ok (.getfield 74, 3) := by decide +kernel
theorem dX12_work_310 : decode cX12_work 310 = .ok (.iload_n 3, 1) := by decide +kernel
theorem dX12_work_311 : decode cX12_work 311 = .ok (.baload, 1) := by decide +kernel
theorem dX12_work_312 : decode cX12_work 312 = .ok (.ifCond .eq 7, 3) := by decide +kernel
theorem dX12_work_315 : decode cX12_work 315 = .ok (.iconst 1, 1) := by decide +kernel
theorem dX12_work_316 : decode cX12_work 316 = .ok (.goto 4, 3) := by decide +kernel
theorem dX12_work_319 : decode cX12_work 319 = .ok (.iconst 0, 1) := by decide +kernel
theorem dX12_work_320 : decode cX12_work 320 = .ok (.bastore, 1) := by decide +kernel
theorem dX12_work_321 : decode cX12_work 321 = .ok (.iinc 5 1, 3) := by decide +kernel
theorem dX12_work_324 : decode cX12_work 324 = .ok (.goto (-295), 3) := by decide +kernel
theorem dX12_work_327 : decode cX12_work 327 = .ok (.return_, 1) := by decide +kernel
theorem dX12_peopleOf_0 : decode cX12_peopleOf 0 = .ok (.iconst 0, 1) := by decide +kernel
theorem dX12_peopleOf_1 : decode cX12_peopleOf 1 = .ok (.istore_n 2, 1) := by decide +kernel
theorem dX12_peopleOf_2 : decode cX12_peopleOf 2 = .ok (.iconst 0, 1) := by decide +kernel
theorem dX12_peopleOf_3 : decode cX12_peopleOf 3 = .ok (.istore_n 3, 1) := by decide +kernel
theorem dX12_peopleOf_4 : decode cX12_peopleOf 4 = .ok (.iload_n 3, 1) := by decide +kernel
theorem dX12_peopleOf_5 : decode cX12_peopleOf 5 = .ok (.aload_n 0, 1) := by decide +kernel
theorem dX12_peopleOf_6 : decode cX12_peopleOf 6 = .ok (.getfield 7, 3) := by decide +kernel
theorem dX12_peopleOf_9 : decode cX12_peopleOf 9 = .ok (.bipush 6, 2) := by decide +kernel
theorem dX12_peopleOf_11 : decode cX12_peopleOf 11 = .ok (.iaload, 1) := by decide +kernel
theorem dX12_peopleOf_12 : decode cX12_peopleOf 12 = .ok (.if_icmp .ge 55, 3) := by decide +kernel
theorem dX12_peopleOf_15 : decode cX12_peopleOf 15 = .ok (.iload_n 2, 1) := by decide +kernel
theorem dX12_peopleOf_16 : decode cX12_peopleOf 16 = .ok (.iload_n 1, 1) := by decide +kernel
theorem dX12_peopleOf_17 : decode cX12_peopleOf 17 = .ok (.iconst (-1), 1) := by decide +kernel
theorem dX12_peopleOf_18 : decode cX12_peopleOf 18 = .ok (.if_icmp .eq 19, 3) := by decide +kernel
theorem dX12_peopleOf_21 : decode cX12_peopleOf 21 = .ok (.aload_n 0, 1) := by decide +kernel
theorem dX12_peopleOf_22 : decode cX12_peopleOf 22 = .ok (.getfield 7, 3) := by decide +kernel
theorem dX12_peopleOf_25 : decode cX12_peopleOf 25 = .ok (.sipush 1200, 3) := by decide +kernel
theorem dX12_peopleOf_28 : decode cX12_peopleOf 28 = .ok (.iconst 5, 1) := by decide +kernel
theorem dX12_peopleOf_29 : decode cX12_peopleOf 29 = .ok (.iload_n 3, 1) := by decide +kernel
theorem dX12_peopleOf_30 : decode cX12_peopleOf 30 = .ok (.imul, 1) := by decide +kernel
theorem dX12_peopleOf_31 : decode cX12_peopleOf 31 = .ok (.iadd, 1) := by decide +kernel
theorem dX12_peopleOf_32 : decode cX12_peopleOf 32 = .ok (.iaload, 1) := by decide +kernel
theorem dX12_peopleOf_33 : decode cX12_peopleOf 33 = .ok (.iload_n 1, 1) := by decide +kernel
theorem dX12_peopleOf_34 : decode cX12_peopleOf 34 = .ok (.if_icmp .ne 24, 3) := by decide +kernel
theorem dX12_peopleOf_37 : decode cX12_peopleOf 37 = .ok (.aload_n 0, 1) := by decide +kernel
theorem dX12_peopleOf_38 : decode cX12_peopleOf 38 = .ok (.getfield 7, 3) := by decide +kernel
theorem dX12_peopleOf_41 : decode cX12_peopleOf 41 = .ok (.sipush 1200, 3) := by decide +kernel
theorem dX12_peopleOf_44 : decode cX12_peopleOf 44 = .ok (.iconst 5, 1) := by decide +kernel
theorem dX12_peopleOf_45 : decode cX12_peopleOf 45 = .ok (.iload_n 3, 1) := by decide +kernel
theorem dX12_peopleOf_46 : decode cX12_peopleOf 46 = .ok (.imul, 1) := by decide +kernel
theorem dX12_peopleOf_47 : decode cX12_peopleOf 47 = .ok (.iadd, 1) := by decide +kernel
theorem dX12_peopleOf_48 : decode cX12_peopleOf 48 = .ok (.iconst 4, 1) := by decide +kernel
theorem dX12_peopleOf_49 : decode cX12_peopleOf 49 = .ok (.iadd, 1) := by decide +kernel
theorem dX12_peopleOf_50 : decode cX12_peopleOf 50 = .ok (.iaload, 1) := by decide +kernel
theorem dX12_peopleOf_51 : decode cX12_peopleOf 51 = .ok (.ifCond .ge 7, 3) := by decide +kernel
theorem dX12_peopleOf_54 : decode cX12_peopleOf 54 = .ok (.iconst 1, 1) := by decide +kernel
theorem dX12_peopleOf_55 : decode cX12_peopleOf 55 = .ok (.goto 4, 3) := by decide +kernel
theorem dX12_peopleOf_58 : decode cX12_peopleOf 58 = .ok (.iconst 0, 1) := by decide +kernel
theorem dX12_peopleOf_59 : decode cX12_peopleOf 59 = .ok (.iadd, 1) := by decide +kernel
theorem dX12_peopleOf_60 : decode cX12_peopleOf 60 = .ok (.istore_n 2, 1) := by decide +kernel
theorem dX12_peopleOf_61 : decode cX12_peopleOf 61 = .ok (.iinc 3 1, 3) := by decide +kernel
theorem dX12_peopleOf_64 : decode cX12_peopleOf 64 = .ok (.goto (-60), 3) := by decide +kernel
theorem dX12_peopleOf_67 : decode cX12_peopleOf 67 = .ok (.iload_n 2, 1) := by decide +kernel
theorem dX12_peopleOf_68 : decode cX12_peopleOf 68 = .ok (.ireturn, 1) := by decide +kernel
theorem dX12_name_0 : decode cX12_name 0 = .ok (.aload_n 0, 1) := by decide +kernel
theorem dX12_name_1 : decode cX12_name 1 = .ok (.getfield 67, 3) := by decide +kernel
theorem dX12_name_4 : decode cX12_name 4 = .ok (.iconst 0, 1) := by decide +kernel
theorem dX12_name_5 : decode cX12_name 5 = .ok (.iload_n 2, 1) := by decide +kernel
theorem dX12_name_6 : decode cX12_name 6 = .ok (.iastore, 1) := by decide +kernel
theorem dX12_name_7 : decode cX12_name 7 = .ok (.aload_n 0, 1) := by decide +kernel
theorem dX12_name_8 : decode cX12_name 8 = .ok (.getfield 67, 3) := by decide +kernel
theorem dX12_name_11 : decode cX12_name 11 = .ok (.iconst 1, 1) := by decide +kernel
theorem dX12_name_12 : decode cX12_name 12 = .ok (.aload_n 0, 1) := by decide +kernel
theorem dX12_name_13 : decode cX12_name 13 = .ok (.getfield 7, 3) := by decide +kernel
theorem dX12_name_16 : decode cX12_name 16 = .ok (.sipush 1080, 3) := by decide +kernel
theorem dX12_name_19 : decode cX12_name 19 = .ok (.iconst 5, 1) := by decide +kernel
theorem dX12_name_20 : decode cX12_name 20 = .ok (.iload_n 1, 1) := by decide +kernel
theorem dX12_name_21 : decode cX12_name 21 = .ok (.imul, 1) := by decide +kernel
theorem dX12_name_22 : decode cX12_name 22 = .ok (.iadd, 1) := by decide +kernel
theorem dX12_name_23 : decode cX12_name 23 = .ok (.iconst 1, 1) := by decide +kernel
theorem dX12_name_24 : decode cX12_name 24 = .ok (.iadd, 1) := by decide +kernel
theorem dX12_name_25 : decode cX12_name 25 = .ok (.iaload, 1) := by decide +kernel
theorem dX12_name_26 : decode cX12_name 26 = .ok (.iastore, 1) := by decide +kernel
theorem dX12_name_27 : decode cX12_name 27 = .ok (.aload_n 0, 1) := by decide +kernel
theorem dX12_name_28 : decode cX12_name 28 = .ok (.getfield 67, 3) := by decide +kernel
theorem dX12_name_31 : decode cX12_name 31 = .ok (.iconst 2, 1) := by decide +kernel
theorem dX12_name_32 : decode cX12_name 32 = .ok (.aload_n 0, 1) := by decide +kernel
theorem dX12_name_33 : decode cX12_name 33 = .ok (.getfield 7, 3) := by decide +kernel
theorem dX12_name_36 : decode cX12_name 36 = .ok (.sipush 1080, 3) := by decide +kernel
theorem dX12_name_39 : decode cX12_name 39 = .ok (.iconst 5, 1) := by decide +kernel
theorem dX12_name_40 : decode cX12_name 40 = .ok (.iload_n 1, 1) := by decide +kernel
theorem dX12_name_41 : decode cX12_name 41 = .ok (.imul, 1) := by decide +kernel
theorem dX12_name_42 : decode cX12_name 42 = .ok (.iadd, 1) := by decide +kernel
theorem dX12_name_43 : decode cX12_name 43 = .ok (.iconst 2, 1) := by decide +kernel
theorem dX12_name_44 : decode cX12_name 44 = .ok (.iadd, 1) := by decide +kernel
theorem dX12_name_45 : decode cX12_name 45 = .ok (.iaload, 1) := by decide +kernel
theorem dX12_name_46 : decode cX12_name 46 = .ok (.iastore, 1) := by decide +kernel
theorem dX12_name_47 : decode cX12_name 47 = .ok (.aload_n 0, 1) := by decide +kernel
theorem dX12_name_48 : decode cX12_name 48 = .ok (.getfield 67, 3) := by decide +kernel
theorem dX12_name_51 : decode cX12_name 51 = .ok (.iconst 3, 1) := by decide +kernel
theorem dX12_name_52 : decode cX12_name 52 = .ok (.aload_n 0, 1) := by decide +kernel
theorem dX12_name_53 : decode cX12_name 53 = .ok (.iload_n 1, 1) := by decide +kernel
theorem dX12_name_54 : decode cX12_name 54 = .ok (.invokevirtual 336, 3) := by decide +kernel
theorem dX12_name_57 : decode cX12_name 57 = .ok (.iastore, 1) := by decide +kernel
theorem dX12_name_58 : decode cX12_name 58 = .ok (.return_, 1) := by decide +kernel
theorem dX12_isShut_0 : decode cX12_isShut 0 = .ok (.aload_n 0, 1) := by decide +kernel
theorem dX12_isShut_1 : decode cX12_isShut 1 = .ok (.iload_n 2, 1) := by decide +kernel
theorem dX12_isShut_2 : decode cX12_isShut 2 = .ok (.iload_n 3, 1) := by decide +kernel
theorem dX12_isShut_3 : decode cX12_isShut 3 = .ok (.invokevirtual 339, 3) := by decide +kernel
theorem dX12_isShut_6 : decode cX12_isShut 6 = .ok (.aload_n 0, 1) := by decide +kernel
theorem dX12_isShut_7 : decode cX12_isShut 7 = .ok (.iload_n 1, 1) := by decide +kernel
theorem dX12_isShut_8 : decode cX12_isShut 8 = .ok (.invokevirtual 342, 3) := by decide +kernel
theorem dX12_isShut_11 : decode cX12_isShut 11 = .ok (.aload_n 0, 1) := by decide +kernel
theorem dX12_isShut_12 : decode cX12_isShut 12 = .ok (.getfield 74, 3) := by decide +kernel
theorem dX12_isShut_15 : decode cX12_isShut 15 = .ok (.iconst 0, 1) := by decide +kernel
theorem dX12_isShut_16 : decode cX12_isShut 16 = .ok (.baload, 1) := by decide +kernel
theorem dX12_isShut_17 : decode cX12_isShut 17 = .ok (.ireturn, 1) := by decide +kernel
theorem dX12_shutOf_0 : decode cX12_shutOf 0 = .ok (.aload_n 0, 1) := by decide +kernel
theorem dX12_shutOf_1 : decode cX12_shutOf 1 = .ok (.iconst 1, 1) := by decide +kernel
theorem dX12_shutOf_2 : decode cX12_shutOf 2 = .ok (.iload_n 2, 1) := by decide +kernel
theorem dX12_shutOf_3 : decode cX12_shutOf 3 = .ok (.invokevirtual 345, 3) := by decide +kernel
theorem dX12_shutOf_6 : decode cX12_shutOf 6 = .ok (.istore_n 3, 1) := by decide +kernel
theorem dX12_shutOf_7 : decode cX12_shutOf 7 = .ok (.iload_n 3, 1) := by decide +kernel
theorem dX12_shutOf_8 : decode cX12_shutOf 8 = .ok (.ifCond .ge 5, 3) := by decide +kernel
theorem dX12_shutOf_11 : decode cX12_shutOf 11 = .ok (.iconst 0, 1) := by decide +kernel
theorem dX12_shutOf_12 : decode cX12_shutOf 12 = .ok (.ireturn, 1) := by decide +kernel
theorem dX12_shutOf_13 : decode cX12_shutOf 13 = .ok (.aload_n 0, 1) := by decide +kernel
theorem dX12_shutOf_14 : decode cX12_shutOf 14 = .ok (.iload_n 3, 1) := by decide +kernel
theorem dX12_shutOf_15 : decode cX12_shutOf 15 = .ok (.iload_n 1, 1) := by decide +kernel
theorem dX12_shutOf_16 : decode cX12_shutOf 16 = .ok (.aload_n 0, 1) := by decide +kernel
theorem dX12_shutOf_17 : decode cX12_shutOf 17 = .ok (.iload_n 1, 1) := by decide +kernel
theorem dX12_shutOf_18 : decode cX12_shutOf 18 = .ok (.iload_n 2, 1) := by decide +kernel
theorem dX12_shutOf_19 : decode cX12_shutOf 19 = .ok (.iconst 0, 1) := by decide +kernel
theorem dX12_shutOf_20 : decode cX12_shutOf 20 = .ok (.invokevirtual 165, 3) := by decide +kernel
theorem dX12_shutOf_23 : decode cX12_shutOf 23 = .ok (.invokevirtual 348, 3) := by decide +kernel
theorem dX12_shutOf_26 : decode cX12_shutOf 26 = .ok (.ifCond .eq 7, 3) := by decide +kernel
theorem dX12_shutOf_29 : decode cX12_shutOf 29 = .ok (.iconst 1, 1) := by decide +kernel
theorem dX12_shutOf_30 : decode cX12_shutOf 30 = .ok (.goto 4, 3) := by decide +kernel
theorem dX12_shutOf_33 : decode cX12_shutOf 33 = .ok (.iconst 0, 1) := by decide +kernel
theorem dX12_shutOf_34 : decode cX12_shutOf 34 = .ok (.aload_n 0, 1) := by decide +kernel
theorem dX12_shutOf_35 : decode cX12_shutOf 35 = .ok (.iload_n 3, 1) := by decide +kernel
theorem dX12_shutOf_36 : decode cX12_shutOf 36 = .ok (.iload_n 1, 1) := by decide +kernel
theorem dX12_shutOf_37 : decode cX12_shutOf 37 = .ok (.aload_n 0, 1) := by decide +kernel
theorem dX12_shutOf_38 : decode cX12_shutOf 38 = .ok (.iload_n 1, 1) := by decide +kernel
theorem dX12_shutOf_39 : decode cX12_shutOf 39 = .ok (.iload_n 2, 1) := by decide +kernel
theorem dX12_shutOf_40 : decode cX12_shutOf 40 = .ok (.iconst 1, 1) := by decide +kernel
theorem dX12_shutOf_41 : decode cX12_shutOf 41 = .ok (.invokevirtual 165, 3) := by decide +kernel
theorem dX12_shutOf_44 : decode cX12_shutOf 44 = .ok (.invokevirtual 348, 3) := by decide +kernel
theorem dX12_shutOf_47 : decode cX12_shutOf 47 = .ok (.ifCond .eq 7, 3) := by decide +kernel
theorem dX12_shutOf_50 : decode cX12_shutOf 50 = .ok (.iconst 1, 1) := by decide +kernel
theorem dX12_shutOf_51 : decode cX12_shutOf 51 = .ok (.goto 4, 3) := by decide +kernel
theorem dX12_shutOf_54 : decode cX12_shutOf 54 = .ok (.iconst 0, 1) := by decide +kernel
theorem dX12_shutOf_55 : decode cX12_shutOf 55 = .ok (.iadd, 1) := by decide +kernel
theorem dX12_shutOf_56 : decode cX12_shutOf 56 = .ok (.ireturn, 1) := by decide +kernel
theorem dX12_worthOf_0 : decode cX12_worthOf 0 = .ok (.aload_n 0, 1) := by decide +kernel
theorem dX12_worthOf_1 : decode cX12_worthOf 1 = .ok (.iconst 2, 1) := by decide +kernel
theorem dX12_worthOf_2 : decode cX12_worthOf 2 = .ok (.iload_n 2, 1) := by decide +kernel
theorem dX12_worthOf_3 : decode cX12_worthOf 3 = .ok (.invokevirtual 345, 3) := by decide +kernel
theorem dX12_worthOf_6 : decode cX12_worthOf 6 = .ok (.istore 4, 2) := by decide +kernel
theorem dX12_worthOf_8 : decode cX12_worthOf 8 = .ok (.iload 4, 2) := by decide +kernel
theorem dX12_worthOf_10 : decode cX12_worthOf 10 = .ok (.ifCond .ge 21, 3) := by decide +kernel
theorem dX12_worthOf_13 : decode cX12_worthOf 13 = .ok (.bipush 100, 2) := by decide +kernel
theorem dX12_worthOf_15 : decode cX12_worthOf 15 = .ok (.aload_n 0, 1) := by decide +kernel
theorem dX12_worthOf_16 : decode cX12_worthOf 16 = .ok (.getfield 7, 3) := by decide +kernel
theorem dX12_worthOf_19 : decode cX12_worthOf 19 = .ok (.sipush 1080, 3) := by decide +kernel
theorem dX12_worthOf_22 : decode cX12_worthOf 22 = .ok (.iconst 5, 1) := by decide +kernel
theorem dX12_worthOf_23 : decode cX12_worthOf 23 = .ok (.iload_n 1, 1) := by decide +kernel
theorem dX12_worthOf_24 : decode cX12_worthOf 24 = .ok (.imul, 1) := by decide +kernel
theorem dX12_worthOf_25 : decode cX12_worthOf 25 = .ok (.iadd, 1) := by decide +kernel
theorem dX12_worthOf_26 : decode cX12_worthOf 26 = .ok (.iconst 2, 1) := by decide +kernel
theorem dX12_worthOf_27 : decode cX12_worthOf 27 = .ok (.iadd, 1) := by decide +kernel
theorem dX12_worthOf_28 : decode cX12_worthOf 28 = .ok (.iaload, 1) := by decide +kernel
theorem dX12_worthOf_29 : decode cX12_worthOf 29 = .ok (.imul, 1) := by decide +kernel
theorem dX12_worthOf_30 : decode cX12_worthOf 30 = .ok (.ireturn, 1) := by decide +kernel
theorem dX12_worthOf_31 : decode cX12_worthOf 31 = .ok (.aload_n 0, 1) := by decide +kernel
theorem dX12_worthOf_32 : decode cX12_worthOf 32 = .ok (.iload_n 1, 1) := by decide +kernel
theorem dX12_worthOf_33 : decode cX12_worthOf 33 = .ok (.iload_n 3, 1) := by decide +kernel
theorem dX12_worthOf_34 : decode cX12_worthOf 34 = .ok (.invokevirtual 339, 3) := by decide +kernel
theorem dX12_worthOf_37 : decode cX12_worthOf 37 = .ok (.aload_n 0, 1) := by decide +kernel
theorem dX12_worthOf_38 : decode cX12_worthOf 38 = .ok (.iload 4, 2) := by decide +kernel
theorem dX12_worthOf_40 : decode cX12_worthOf 40 = .ok (.invokevirtual 342, 3) := by decide +kernel
theorem dX12_worthOf_43 : decode cX12_worthOf 43 = .ok (.aload_n 0, 1) := by decide +kernel
theorem dX12_worthOf_44 : decode cX12_worthOf 44 = .ok (.getfield 70, 3) := by decide +kernel
theorem dX12_worthOf_47 : decode cX12_worthOf 47 = .ok (.iconst 0, 1) := by decide +kernel
theorem dX12_worthOf_48 : decode cX12_worthOf 48 = .ok (.laload, 1) := by decide +kernel
theorem dX12_worthOf_49 : decode cX12_worthOf 49 = .ok (.lconst 0, 1) := by decide +kernel
theorem dX12_worthOf_50 : decode cX12_worthOf 50 = .ok (.lcmp, 1) := by decide +kernel
theorem dX12_worthOf_51 : decode cX12_worthOf 51 = .ok (.ifCond .ge 7, 3) := by decide +kernel
theorem dX12_worthOf_54 : decode cX12_worthOf 54 = .ok (.iconst 0, 1) := by decide +kernel
theorem dX12_worthOf_55 : decode cX12_worthOf 55 = .ok (.goto 10, 3) := by decide +kernel
theorem dX12_worthOf_58 : decode cX12_worthOf 58 = .ok (.aload_n 0, 1) := by decide +kernel
theorem dX12_worthOf_59 : decode cX12_worthOf 59 = .ok (.getfield 70, 3) := by decide +kernel
theorem dX12_worthOf_62 : decode cX12_worthOf 62 = .ok (.iconst 0, 1) := by decide +kernel
theorem dX12_worthOf_63 : decode cX12_worthOf 63 = .ok (.laload, 1) := by decide +kernel
theorem dX12_worthOf_64 : decode cX12_worthOf 64 = .ok (.l2i, 1) := by decide +kernel
theorem dX12_worthOf_65 : decode cX12_worthOf 65 = .ok (.ireturn, 1) := by decide +kernel
theorem dX12_by_0 : decode cX12_by 0 = .ok (.aload_n 0, 1) := by decide +kernel
theorem dX12_by_1 : decode cX12_by 1 = .ok (.iload_n 1, 1) := by decide +kernel
theorem dX12_by_2 : decode cX12_by 2 = .ok (.invokevirtual 162, 3) := by decide +kernel
theorem dX12_by_5 : decode cX12_by 5 = .ok (.ifCond .eq 19, 3) := by decide +kernel
theorem dX12_by_8 : decode cX12_by 8 = .ok (.iload_n 2, 1) := by decide +kernel
theorem dX12_by_9 : decode cX12_by 9 = .ok (.invokestatic 115, 3) := by decide +kernel
theorem dX12_by_12 : decode cX12_by 12 = .ok (.ifCond .eq 12, 3) := by decide +kernel
theorem dX12_by_15 : decode cX12_by 15 = .ok (.iload_n 3, 1) := by decide +kernel
theorem dX12_by_16 : decode cX12_by 16 = .ok (.iconst 0, 1) := by decide +kernel
theorem dX12_by_17 : decode cX12_by 17 = .ok (.iconst 2, 1) := by decide +kernel
theorem dX12_by_18 : decode cX12_by 18 = .ok (.invokestatic 96, 3) := by decide +kernel
theorem dX12_by_21 : decode cX12_by 21 = .ok (.ifCond .ne 5, 3) := by decide +kernel
theorem dX12_by_24 : decode cX12_by 24 = .ok (.iconst (-1), 1) := by decide +kernel
theorem dX12_by_25 : decode cX12_by 25 = .ok (.ireturn, 1) := by decide +kernel
theorem dX12_by_26 : decode cX12_by 26 = .ok (.aload_n 0, 1) := by decide +kernel
theorem dX12_by_27 : decode cX12_by 27 = .ok (.getfield 67, 3) := by decide +kernel
theorem dX12_by_30 : decode cX12_by 30 = .ok (.bipush 7, 2) := by decide +kernel
theorem dX12_by_32 : decode cX12_by 32 = .ok (.iload_n 2, 1) := by decide +kernel
theorem dX12_by_33 : decode cX12_by 33 = .ok (.iastore, 1) := by decide +kernel
theorem dX12_by_34 : decode cX12_by 34 = .ok (.aload_n 0, 1) := by decide +kernel
theorem dX12_by_35 : decode cX12_by 35 = .ok (.invokevirtual 149, 3) := by decide +kernel
theorem dX12_by_38 : decode cX12_by 38 = .ok (.iload_n 3, 1) := by decide +kernel
theorem dX12_by_39 : decode cX12_by 39 = .ok (.ifCond .ne 12, 3) := by decide +kernel
theorem dX12_by_42 : decode cX12_by 42 = .ok (.aload_n 0, 1) := by decide +kernel
theorem dX12_by_43 : decode cX12_by 43 = .ok (.iload_n 1, 1) := by decide +kernel
theorem dX12_by_44 : decode cX12_by 44 = .ok (.iload_n 2, 1) := by decide +kernel
theorem dX12_by_45 : decode cX12_by 45 = .ok (.invokevirtual 351, 3) := by decide +kernel
theorem dX12_by_48 : decode cX12_by 48 = .ok (.goto 25, 3) := by decide +kernel
theorem dX12_by_51 : decode cX12_by 51 = .ok (.aload_n 0, 1) := by decide +kernel
theorem dX12_by_52 : decode cX12_by 52 = .ok (.iload_n 1, 1) := by decide +kernel
theorem dX12_by_53 : decode cX12_by 53 = .ok (.iload_n 2, 1) := by decide +kernel
theorem dX12_by_54 : decode cX12_by 54 = .ok (.iload_n 3, 1) := by decide +kernel
theorem dX12_by_55 : decode cX12_by 55 = .ok (.iconst 1, 1) := by decide +kernel
theorem dX12_by_56 : decode cX12_by 56 = .ok (.if_icmp .ne 13, 3) := by decide +kernel
theorem dX12_by_59 : decode cX12_by 59 = .ok (.aload_n 0, 1) := by decide +kernel
theorem dX12_by_60 : decode cX12_by 60 = .ok (.iload_n 1, 1) := by decide +kernel
theorem dX12_by_61 : decode cX12_by 61 = .ok (.iload_n 2, 1) := by decide +kernel
theorem dX12_by_62 : decode cX12_by 62 = .ok (.iconst 1, 1) := by decide +kernel
theorem dX12_by_63 : decode cX12_by 63 = .ok (.invokevirtual 165, 3) := by decide +kernel
theorem dX12_by_66 : decode cX12_by 66 = .ok (.goto 4, 3) := by decide +kernel
theorem dX12_by_69 : decode cX12_by 69 = .ok (.iconst 0, 1) := by decide +kernel
theorem dX12_by_70 : decode cX12_by 70 = .ok (.invokevirtual 354, 3) := by decide +kernel
theorem dX12_by_73 : decode cX12_by 73 = .ok (.ireturn, 1) := by decide +kernel
theorem dX12_whose_0 : decode cX12_whose 0 = .ok (.iload_n 1, 1) := by decide +kernel
theorem dX12_whose_1 : decode cX12_whose 1 = .ok (.invokestatic 115, 3) := by decide +kernel
theorem dX12_whose_4 : decode cX12_whose 4 = .ok (.ifCond .eq 12, 3) := by decide +kernel
theorem dX12_whose_7 : decode cX12_whose 7 = .ok (.aload_n 0, 1) := by decide +kernel
theorem dX12_whose_8 : decode cX12_whose 8 = .ok (.iconst 3, 1) := by decide +kernel
theorem dX12_whose_9 : decode cX12_whose 9 = .ok (.iload_n 1, 1) := by decide +kernel
theorem dX12_whose_10 : decode cX12_whose 10 = .ok (.invokevirtual 317, 3) := by decide +kernel
theorem dX12_whose_13 : decode cX12_whose 13 = .ok (.goto 4, 3) := by decide +kernel
theorem dX12_whose_16 : decode cX12_whose 16 = .ok (.iconst (-1), 1) := by decide +kernel
theorem dX12_whose_17 : decode cX12_whose 17 = .ok (.istore_n 2, 1) := by decide +kernel
theorem dX12_whose_18 : decode cX12_whose 18 = .ok (.iload_n 2, 1) := by decide +kernel
theorem dX12_whose_19 : decode cX12_whose 19 = .ok (.ifCond .ge 5, 3) := by decide +kernel
theorem dX12_whose_22 : decode cX12_whose 22 = .ok (.iconst (-1), 1) := by decide +kernel
theorem dX12_whose_23 : decode cX12_whose 23 = .ok (.ireturn, 1) := by decide +kernel
theorem dX12_whose_24 : decode cX12_whose 24 = .ok (.aload_n 0, 1) := by decide +kernel
theorem dX12_whose_25 : decode cX12_whose 25 = .ok (.getfield 67, 3) := by decide +kernel
theorem dX12_whose_28 : decode cX12_whose 28 = .ok (.iconst 3, 1) := by decide +kernel
theorem dX12_whose_29 : decode cX12_whose 29 = .ok (.aload_n 0, 1) := by decide +kernel
theorem dX12_whose_30 : decode cX12_whose 30 = .ok (.iconst (-1), 1) := by decide +kernel
theorem dX12_whose_31 : decode cX12_whose 31 = .ok (.invokevirtual 336, 3) := by decide +kernel
theorem dX12_whose_34 : decode cX12_whose 34 = .ok (.iastore, 1) := by decide +kernel
theorem dX12_whose_35 : decode cX12_whose 35 = .ok (.aload_n 0, 1) := by decide +kernel
theorem dX12_whose_36 : decode cX12_whose 36 = .ok (.getfield 67, 3) := by decide +kernel
theorem dX12_whose_39 : decode cX12_whose 39 = .ok (.bipush 7, 2) := by decide +kernel
theorem dX12_whose_41 : decode cX12_whose 41 = .ok (.iload_n 1, 1) := by decide +kernel
theorem dX12_whose_42 : decode cX12_whose 42 = .ok (.iastore, 1) := by decide +kernel
theorem dX12_whose_43 : decode cX12_whose 43 = .ok (.iconst 0, 1) := by decide +kernel
theorem dX12_whose_44 : decode cX12_whose 44 = .ok (.istore_n 3, 1) := by decide +kernel
theorem dX12_whose_45 : decode cX12_whose 45 = .ok (.iload_n 3, 1) := by decide +kernel
theorem dX12_whose_46 : decode cX12_whose 46 = .ok (.aload_n 0, 1) := by decide +kernel
theorem dX12_whose_47 : decode cX12_whose 47 = .ok (.getfield 16, 3) := by decide +kernel
theorem dX12_whose_50 : decode cX12_whose 50 = .ok (.sipush 800, 3) := by decide +kernel
theorem dX12_whose_53 : decode cX12_whose 53 = .ok (.iload_n 2, 1) := by decide +kernel
theorem dX12_whose_54 : decode cX12_whose 54 = .ok (.imul, 1) := by decide +kernel
theorem dX12_whose_55 : decode cX12_whose 55 = .ok (.iaload, 1) := by decide +kernel
theorem dX12_whose_56 : decode cX12_whose 56 = .ok (.if_icmp .ge 62, 3) := by decide +kernel
theorem dX12_whose_59 : decode cX12_whose 59 = .ok (.sipush 800, 3) := by decide +kernel
theorem dX12_whose_62 : decode cX12_whose 62 = .ok (.iload_n 2, 1) := by decide +kernel
theorem dX12_whose_63 : decode cX12_whose 63 = .ok (.imul, 1) := by decide +kernel
theorem dX12_whose_64 : decode cX12_whose 64 = .ok (.iconst 1, 1) := by decide +kernel
theorem dX12_whose_65 : decode cX12_whose 65 = .ok (.iadd, 1) := by decide +kernel
theorem dX12_whose_66 : decode cX12_whose 66 = .ok (.bipush 6, 2) := by decide +kernel
theorem dX12_whose_68 : decode cX12_whose 68 = .ok (.iload_n 3, 1) := by decide +kernel
theorem dX12_whose_69 : decode cX12_whose 69 = .ok (.imul, 1) := by decide +kernel
theorem dX12_whose_70 : decode cX12_whose 70 = .ok (.iadd, 1) := by decide +kernel
theorem dX12_whose_71 : decode cX12_whose 71 = .ok (.istore 4, 2) := by decide +kernel
theorem dX12_whose_73 : decode cX12_whose 73 = .ok (.aload_n 0, 1) := by decide +kernel
theorem dX12_whose_74 : decode cX12_whose 74 = .ok (.getfield 16, 3) := by decide +kernel
theorem dX12_whose_77 : decode cX12_whose 77 = .ok (.iload 4, 2) := by decide +kernel
theorem dX12_whose_79 : decode cX12_whose 79 = .ok (.iaload, 1) := by decide +kernel
theorem dX12_whose_80 : decode cX12_whose 80 = .ok (.iconst 3, 1) := by decide +kernel
theorem dX12_whose_81 : decode cX12_whose 81 = .ok (.if_icmp .eq 6, 3) := by decide +kernel
theorem dX12_whose_84 : decode cX12_whose 84 = .ok (.goto 28, 3) := by decide +kernel
theorem dX12_whose_87 : decode cX12_whose 87 = .ok (.aload_n 0, 1) := by decide +kernel
theorem dX12_whose_88 : decode cX12_whose 88 = .ok (.iload 4, 2) := by decide +kernel
theorem dX12_whose_90 : decode cX12_whose 90 = .ok (.invokevirtual 342, 3) := by decide +kernel
theorem dX12_whose_93 : decode cX12_whose 93 = .ok (.aload_n 0, 1) := by decide +kernel
theorem dX12_whose_94 : decode cX12_whose 94 = .ok (.getfield 74, 3) := by decide +kernel
theorem dX12_whose_97 : decode cX12_whose 97 = .ok (.iconst 0, 1) := by decide +kernel
theorem dX12_whose_98 : decode cX12_whose 98 = .ok (.baload, 1) := by decide +kernel
theorem dX12_whose_99 : decode cX12_whose 99 = .ok (.ifCond .eq 13, 3) := by decide +kernel
theorem dX12_whose_102 : decode cX12_whose 102 = .ok (.aload_n 0, 1) := by decide +kernel
theorem dX12_whose_103 : decode cX12_whose 103 = .ok (.getfield 16, 3) := by decide +kernel
theorem dX12_whose_106 : decode cX12_whose 106 = .ok (.iload 4, 2) := by decide +kernel
theorem dX12_whose_108 : decode cX12_whose 108 = .ok (.iconst 1, 1) := by decide +kernel
theorem dX12_whose_109 : decode cX12_whose 109 = .ok (.iadd, 1) := by decide +kernel
theorem dX12_whose_110 : decode cX12_whose 110 = .ok (.iaload, 1) := by decide +kernel
theorem dX12_whose_111 : decode cX12_whose 111 = .ok (.ireturn, 1) := by decide +kernel
theorem dX12_whose_112 : decode cX12_whose 112 = .ok (.iinc 3 1, 3) := by decide +kernel
theorem dX12_whose_115 : decode cX12_whose 115 = .ok (.goto (-70), 3) := by decide +kernel
theorem dX12_whose_118 : decode cX12_whose 118 = .ok (.iconst (-1), 1) := by decide +kernel
theorem dX12_whose_119 : decode cX12_whose 119 = .ok (.ireturn, 1) := by decide +kernel
theorem dX12_count_0 : decode cX12_count 0 = .ok (.aload_n 0, 1) := by decide +kernel
theorem dX12_count_1 : decode cX12_count 1 = .ok (.invokevirtual 149, 3) := by decide +kernel
theorem dX12_count_4 : decode cX12_count 4 = .ok (.iconst 0, 1) := by decide +kernel
theorem dX12_count_5 : decode cX12_count 5 = .ok (.istore_n 2, 1) := by decide +kernel
theorem dX12_count_6 : decode cX12_count 6 = .ok (.iload_n 2, 1) := by decide +kernel
theorem dX12_count_7 : decode cX12_count 7 = .ok (.aload_n 0, 1) := by decide +kernel
theorem dX12_count_8 : decode cX12_count 8 = .ok (.getfield 7, 3) := by decide +kernel
theorem dX12_count_11 : decode cX12_count 11 = .ok (.iconst 5, 1) := by decide +kernel
theorem dX12_count_12 : decode cX12_count 12 = .ok (.iaload, 1) := by decide +kernel
theorem dX12_count_13 : decode cX12_count 13 = .ok (.if_icmp .ge 22, 3) := by decide +kernel
theorem dX12_count_16 : decode cX12_count 16 = .ok (.aload_n 0, 1) := by decide +kernel
theorem dX12_count_17 : decode cX12_count 17 = .ok (.getfield 77, 3) := by decide +kernel
theorem dX12_count_20 : decode cX12_count 20 = .ok (.iload_n 2, 1) := by decide +kernel
theorem dX12_count_21 : decode cX12_count 21 = .ok (.aload_n 0, 1) := by decide +kernel
theorem dX12_count_22 : decode cX12_count 22 = .ok (.iload_n 2, 1) := by decide +kernel
theorem dX12_count_23 : decode cX12_count 23 = .ok (.iload_n 1, 1) := by decide +kernel
theorem dX12_count_24 : decode cX12_count 24 = .ok (.iconst 1, 1) := by decide +kernel
theorem dX12_count_25 : decode cX12_count 25 = .ok (.invokevirtual 165, 3) := by decide +kernel
theorem dX12_count_28 : decode cX12_count 28 = .ok (.iastore, 1) := by decide +kernel
theorem dX12_count_29 : decode cX12_count 29 = .ok (.iinc 2 1, 3) := by decide +kernel
theorem dX12_count_32 : decode cX12_count 32 = .ok (.goto (-26), 3) := by decide +kernel
theorem dX12_count_35 : decode cX12_count 35 = .ok (.aload_n 0, 1) := by decide +kernel
theorem dX12_count_36 : decode cX12_count 36 = .ok (.iconst 4, 1) := by decide +kernel
theorem dX12_count_37 : decode cX12_count 37 = .ok (.iload_n 1, 1) := by decide +kernel
theorem dX12_count_38 : decode cX12_count 38 = .ok (.invokevirtual 345, 3) := by decide +kernel
theorem dX12_count_41 : decode cX12_count 41 = .ok (.istore_n 2, 1) := by decide +kernel
theorem dX12_count_42 : decode cX12_count 42 = .ok (.aload_n 0, 1) := by decide +kernel
theorem dX12_count_43 : decode cX12_count 43 = .ok (.iconst 0, 1) := by decide +kernel
theorem dX12_count_44 : decode cX12_count 44 = .ok (.putfield 357, 3) := by decide +kernel
theorem dX12_count_47 : decode cX12_count 47 = .ok (.aload_n 0, 1) := by decide +kernel
theorem dX12_count_48 : decode cX12_count 48 = .ok (.iconst 0, 1) := by decide +kernel
theorem dX12_count_49 : decode cX12_count 49 = .ok (.putfield 360, 3) := by decide +kernel
theorem dX12_count_52 : decode cX12_count 52 = .ok (.aload_n 0, 1) := by decide +kernel
theorem dX12_count_53 : decode cX12_count 53 = .ok (.getfield 67, 3) := by decide +kernel
theorem dX12_count_56 : decode cX12_count 56 = .ok (.bipush 7, 2) := by decide +kernel
theorem dX12_count_58 : decode cX12_count 58 = .ok (.iload_n 1, 1) := by decide +kernel
theorem dX12_count_59 : decode cX12_count 59 = .ok (.iastore, 1) := by decide +kernel
theorem dX12_count_60 : decode cX12_count 60 = .ok (.iconst 0, 1) := by decide +kernel
theorem dX12_count_61 : decode cX12_count 61 = .ok (.istore_n 3, 1) := by decide +kernel
theorem dX12_count_62 : decode cX12_count 62 = .ok (.iload_n 3, 1) := by decide +kernel
theorem dX12_count_63 : decode cX12_count 63 = .ok (.aload_n 0, 1) := by decide +kernel
theorem dX12_count_64 : decode cX12_count 64 = .ok (.getfield 7, 3) := by decide +kernel
theorem dX12_count_67 : decode cX12_count 67 = .ok (.bipush 6, 2) := by decide +kernel
theorem dX12_count_69 : decode cX12_count 69 = .ok (.iaload, 1) := by decide +kernel
theorem dX12_count_70 : decode cX12_count 70 = .ok (.if_icmp .ge 168, 3) := by decide +kernel
theorem dX12_count_73 : decode cX12_count 73 = .ok (.sipush 1200, 3) := by decide +kernel
theorem dX12_count_76 : decode cX12_count 76 = .ok (.iconst 5, 1) := by decide +kernel
theorem dX12_count_77 : decode cX12_count 77 = .ok (.iload_n 3, 1) := by decide +kernel
theorem dX12_count_78 : decode cX12_count 78 = .ok (.imul, 1) := by decide +kernel
theorem dX12_count_79 : decode cX12_count 79 = .ok (.iadd, 1) := by decide +kernel
theorem dX12_count_80 : decode cX12_count 80 = .ok (.istore 4, 2) := by decide +kernel
theorem dX12_count_82 : decode cX12_count 82 = .ok (.aload_n 0, 1) := by decide +kernel
theorem dX12_count_83 : decode cX12_count 83 = .ok (.getfield 7, 3) := by decide +kernel
theorem dX12_count_86 : decode cX12_count 86 = .ok (.iload 4, 2) := by decide +kernel
theorem dX12_count_88 : decode cX12_count 88 = .ok (.iconst 4, 1) := by decide +kernel
theorem dX12_count_89 : decode cX12_count 89 = .ok (.iadd, 1) := by decide +kernel
theorem dX12_count_90 : decode cX12_count 90 = .ok (.iaload, 1) := by decide +kernel
theorem dX12_count_91 : decode cX12_count 91 = .ok (.ifCond .lt 6, 3) := by decide +kernel
theorem dX12_count_94 : decode cX12_count 94 = .ok (.goto 138, 3) := by decide +kernel
theorem dX12_count_97 : decode cX12_count 97 = .ok (.aload_n 0, 1) := by decide +kernel
theorem dX12_count_98 : decode cX12_count 98 = .ok (.aload_n 0, 1) := by decide +kernel
theorem dX12_count_99 : decode cX12_count 99 = .ok (.getfield 7, 3) := by decide +kernel
theorem dX12_count_102 : decode cX12_count 102 = .ok (.iload 4, 2) := by decide +kernel
theorem dX12_count_104 : decode cX12_count 104 = .ok (.iaload, 1) := by decide +kernel
theorem dX12_count_105 : decode cX12_count 105 = .ok (.aload_n 0, 1) := by decide +kernel
theorem dX12_count_106 : decode cX12_count 106 = .ok (.getfield 77, 3) := by decide +kernel
theorem dX12_count_109 : decode cX12_count 109 = .ok (.aload_n 0, 1) := by decide +kernel
theorem dX12_count_110 : decode cX12_count 110 = .ok (.getfield 7, 3) := by decide +kernel
theorem dX12_count_113 : decode cX12_count 113 = .ok (.iload 4, 2) := by decide +kernel
theorem dX12_count_115 : decode cX12_count 115 = .ok (.iaload, 1) := by decide +kernel
theorem dX12_count_116 : decode cX12_count 116 = .ok (.iaload, 1) := by decide +kernel
theorem dX12_count_117 : decode cX12_count 117 = .ok (.invokevirtual 339, 3) := by decide +kernel
theorem dX12_count_120 : decode cX12_count 120 = .ok (.aload_n 0, 1) := by decide +kernel
theorem dX12_count_121 : decode cX12_count 121 = .ok (.getfield 67, 3) := by decide +kernel
theorem dX12_count_124 : decode cX12_count 124 = .ok (.iconst 4, 1) := by decide +kernel
theorem dX12_count_125 : decode cX12_count 125 = .ok (.aload_n 0, 1) := by decide +kernel
theorem dX12_count_126 : decode cX12_count 126 = .ok (.getfield 7, 3) := by decide +kernel
theorem dX12_count_129 : decode cX12_count 129 = .ok (.iload 4, 2) := by decide +kernel
theorem dX12_count_131 : decode cX12_count 131 = .ok (.iconst 3, 1) := by decide +kernel
theorem dX12_count_132 : decode cX12_count 132 = .ok (.iadd, 1) := by decide +kernel
theorem dX12_count_133 : decode cX12_count 133 = .ok (.iaload, 1) := by decide +kernel
theorem dX12_count_134 : decode cX12_count 134 = .ok (.iastore, 1) := by decide +kernel
theorem dX12_count_135 : decode cX12_count 135 = .ok (.aload_n 0, 1) := by decide +kernel
theorem dX12_count_136 : decode cX12_count 136 = .ok (.getfield 67, 3) := by decide +kernel
theorem dX12_count_139 : decode cX12_count 139 = .ok (.iconst 5, 1) := by decide +kernel
theorem dX12_count_140 : decode cX12_count 140 = .ok (.aload_n 0, 1) := by decide +kernel
theorem dX12_count_141 : decode cX12_count 141 = .ok (.getfield 7, 3) := by decide +kernel
theorem dX12_count_144 : decode cX12_count 144 = .ok (.iload 4, 2) := by decide +kernel
theorem dX12_count_146 : decode cX12_count 146 = .ok (.iconst 2, 1) := by decide +kernel
theorem dX12_count_147 : decode cX12_count 147 = .ok (.iadd, 1) := by decide +kernel
theorem dX12_count_148 : decode cX12_count 148 = .ok (.iaload, 1) := by decide +kernel
theorem dX12_count_149 : decode cX12_count 149 = .ok (.iastore, 1) := by decide +kernel
theorem dX12_count_150 : decode cX12_count 150 = .ok (.aload_n 0, 1) := by decide +kernel
theorem dX12_count_151 : decode cX12_count 151 = .ok (.getfield 67, 3) := by decide +kernel
theorem dX12_count_154 : decode cX12_count 154 = .ok (.bipush 6, 2) := by decide +kernel
theorem dX12_count_156 : decode cX12_count 156 = .ok (.aload_n 0, 1) := by decide +kernel
theorem dX12_count_157 : decode cX12_count 157 = .ok (.getfield 7, 3) := by decide +kernel
theorem dX12_count_160 : decode cX12_count 160 = .ok (.iload 4, 2) := by decide +kernel
theorem dX12_count_162 : decode cX12_count 162 = .ok (.iconst 1, 1) := by decide +kernel
theorem dX12_count_163 : decode cX12_count 163 = .ok (.iadd, 1) := by decide +kernel
theorem dX12_count_164 : decode cX12_count 164 = .ok (.iaload, 1) := by decide +kernel
theorem dX12_count_165 : decode cX12_count 165 = .ok (.iastore, 1) := by decide +kernel
theorem dX12_count_166 : decode cX12_count 166 = .ok (.aload_n 0, 1) := by decide +kernel
theorem dX12_count_167 : decode cX12_count 167 = .ok (.getfield 74, 3) := by decide +kernel
theorem dX12_count_170 : decode cX12_count 170 = .ok (.iconst 0, 1) := by decide +kernel
theorem dX12_count_171 : decode cX12_count 171 = .ok (.iconst 0, 1) := by decide +kernel
theorem dX12_count_172 : decode cX12_count 172 = .ok (.bastore, 1) := by decide +kernel
theorem dX12_count_173 : decode cX12_count 173 = .ok (.iload_n 2, 1) := by decide +kernel
theorem dX12_count_174 : decode cX12_count 174 = .ok (.ifCond .lt 8, 3) := by decide +kernel
theorem dX12_count_177 : decode cX12_count 177 = .ok (.aload_n 0, 1) := by decide +kernel
theorem dX12_count_178 : decode cX12_count 178 = .ok (.iload_n 2, 1) := by decide +kernel
theorem dX12_count_179 : decode cX12_count 179 = .ok (.invokevirtual 342, 3) := by decide +kernel
theorem dX12_count_182 : decode cX12_count 182 = .ok (.aload_n 0, 1) := by decide +kernel
theorem dX12_count_183 : decode cX12_count 183 = .ok (.getfield 74, 3) := by decide +kernel
theorem dX12_count_186 : decode cX12_count 186 = .ok (.iconst 0, 1) := by decide +kernel
theorem dX12_count_187 : decode cX12_count 187 = .ok (.baload, 1) := by decide +kernel
theorem dX12_count_188 : decode cX12_count 188 = .ok (.ifCond .eq 16, 3) := by decide +kernel
theorem dX12_count_191 : decode cX12_count 191 = .ok (.aload_n 0, 1) := by decide +kernel
theorem dX12_count_192 : decode cX12_count 192 = .ok (.dup, 1) := by decide +kernel
theorem dX12_count_193 : decode cX12_count 193 = .ok (.getfield 357, 3) := by decide +kernel
theorem dX12_count_196 : decode cX12_count 196 = .ok (.iconst 1, 1) := by decide +kernel
theorem dX12_count_197 : decode cX12_count 197 = .ok (.iadd, 1) := by decide +kernel
theorem dX12_count_198 : decode cX12_count 198 = .ok (.putfield 357, 3) := by decide +kernel
theorem dX12_count_201 : decode cX12_count 201 = .ok (.goto 31, 3) := by decide +kernel
theorem dX12_count_204 : decode cX12_count 204 = .ok (.aload_n 0, 1) := by decide +kernel
theorem dX12_count_205 : decode cX12_count 205 = .ok (.getfield 80, 3) := by decide +kernel
theorem dX12_count_208 : decode cX12_count 208 = .ok (.aload_n 0, 1) := by decide +kernel
theorem dX12_count_209 : decode cX12_count 209 = .ok (.getfield 360, 3) := by decide +kernel
theorem dX12_count_212 : decode cX12_count 212 = .ok (.aload_n 0, 1) := by decide +kernel
theorem dX12_count_213 : decode cX12_count 213 = .ok (.getfield 7, 3) := by decide +kernel
theorem dX12_count_216 : decode cX12_count 216 = .ok (.iload 4, 2) := by decide +kernel
theorem dX12_count_218 : decode cX12_count 218 = .ok (.iconst 2, 1) := by decide +kernel
theorem dX12_count_219 : decode cX12_count 219 = .ok (.iadd, 1) := by decide +kernel
theorem dX12_count_220 : decode cX12_count 220 = .ok (.iaload, 1) := by decide +kernel
theorem dX12_count_221 : decode cX12_count 221 = .ok (.iastore, 1) := by decide +kernel
theorem dX12_count_222 : decode cX12_count 222 = .ok (.aload_n 0, 1) := by decide +kernel
theorem dX12_count_223 : decode cX12_count 223 = .ok (.dup, 1) := by decide +kernel
theorem dX12_count_224 : decode cX12_count 224 = .ok (.getfield 360, 3) := by decide +kernel
theorem dX12_count_227 : decode cX12_count 227 = .ok (.iconst 1, 1) := by decide +kernel
theorem dX12_count_228 : decode cX12_count 228 = .ok (.iadd, 1) := by decide +kernel
theorem dX12_count_229 : decode cX12_count 229 = .ok (.putfield 360, 3) := by decide +kernel
theorem dX12_count_232 : decode cX12_count 232 = .ok (.iinc 3 1, 3) := by decide +kernel
theorem dX12_count_235 : decode cX12_count 235 = .ok (.goto (-173), 3) := by decide +kernel
theorem dX12_count_238 : decode cX12_count 238 = .ok (.return_, 1) := by decide +kernel
theorem dX12_gift_0 : decode cX12_gift 0 = .ok (.iconst 0, 1) := by decide +kernel
theorem dX12_gift_1 : decode cX12_gift 1 = .ok (.istore_n 1, 1) := by decide +kernel
theorem dX12_gift_2 : decode cX12_gift 2 = .ok (.iconst 0, 1) := by decide +kernel
theorem dX12_gift_3 : decode cX12_gift 3 = .ok (.istore_n 2, 1) := by decide +kernel
theorem dX12_gift_4 : decode cX12_gift 4 = .ok (.aload_n 0, 1) := by decide +kernel
theorem dX12_gift_5 : decode cX12_gift 5 = .ok (.getfield 357, 3) := by decide +kernel
theorem dX12_gift_8 : decode cX12_gift 8 = .ok (.iload_n 2, 1) := by decide +kernel
theorem dX12_gift_9 : decode cX12_gift 9 = .ok (.iadd, 1) := by decide +kernel
theorem dX12_gift_10 : decode cX12_gift 10 = .ok (.aload_n 0, 1) := by decide +kernel
theorem dX12_gift_11 : decode cX12_gift 11 = .ok (.getfield 360, 3) := by decide +kernel
theorem dX12_gift_14 : decode cX12_gift 14 = .ok (.iload_n 2, 1) := by decide +kernel
theorem dX12_gift_15 : decode cX12_gift 15 = .ok (.isub, 1) := by decide +kernel
theorem dX12_gift_16 : decode cX12_gift 16 = .ok (.if_icmp .gt 81, 3) := by decide +kernel
theorem dX12_gift_19 : decode cX12_gift 19 = .ok (.iload_n 2, 1) := by decide +kernel
theorem dX12_gift_20 : decode cX12_gift 20 = .ok (.istore_n 3, 1) := by decide +kernel
theorem dX12_gift_21 : decode cX12_gift 21 = .ok (.iload_n 2, 1) := by decide +kernel
theorem dX12_gift_22 : decode cX12_gift 22 = .ok (.istore 4, 2) := by decide +kernel
theorem dX12_gift_24 : decode cX12_gift 24 = .ok (.iload 4, 2) := by decide +kernel
theorem dX12_gift_26 : decode cX12_gift 26 = .ok (.aload_n 0, 1) := by decide +kernel
theorem dX12_gift_27 : decode cX12_gift 27 = .ok (.getfield 360, 3) := by decide +kernel
theorem dX12_gift_30 : decode cX12_gift 30 = .ok (.if_icmp .ge 28, 3) := by decide +kernel
theorem dX12_gift_33 : decode cX12_gift 33 = .ok (.aload_n 0, 1) := by decide +kernel
theorem dX12_gift_34 : decode cX12_gift 34 = .ok (.getfield 80, 3) := by decide +kernel
theorem dX12_gift_37 : decode cX12_gift 37 = .ok (.iload 4, 2) := by decide +kernel
theorem dX12_gift_39 : decode cX12_gift 39 = .ok (.iaload, 1) := by decide +kernel
theorem dX12_gift_40 : decode cX12_gift 40 = .ok (.aload_n 0, 1) := by decide +kernel
theorem dX12_gift_41 : decode cX12_gift 41 = .ok (.getfield 80, 3) := by decide +kernel
theorem dX12_gift_44 : decode cX12_gift 44 = .ok (.iload_n 3, 1) := by decide +kernel
theorem dX12_gift_45 : decode cX12_gift 45 = .ok (.iaload, 1) := by decide +kernel
theorem dX12_gift_46 : decode cX12_gift 46 = .ok (.if_icmp .ge 6, 3) := by decide +kernel
theorem dX12_gift_49 : decode cX12_gift 49 = .ok (.iload 4, 2) := by decide +kernel
theorem dX12_gift_51 : decode cX12_gift 51 = .ok (.istore_n 3, 1) := by decide +kernel
theorem dX12_gift_52 : decode cX12_gift 52 = .ok (.iinc 4 1, 3) := by decide +kernel
theorem dX12_gift_55 : decode cX12_gift 55 = .ok (.goto (-31), 3) := by decide +kernel
theorem dX12_gift_58 : decode cX12_gift 58 = .ok (.aload_n 0, 1) := by decide +kernel
theorem dX12_gift_59 : decode cX12_gift 59 = .ok (.getfield 80, 3) := by decide +kernel
theorem dX12_gift_62 : decode cX12_gift 62 = .ok (.iload_n 3, 1) := by decide +kernel
theorem dX12_gift_63 : decode cX12_gift 63 = .ok (.iaload, 1) := by decide +kernel
theorem dX12_gift_64 : decode cX12_gift 64 = .ok (.istore 4, 2) := by decide +kernel
theorem dX12_gift_66 : decode cX12_gift 66 = .ok (.aload_n 0, 1) := by decide +kernel
theorem dX12_gift_67 : decode cX12_gift 67 = .ok (.getfield 80, 3) := by decide +kernel
theorem dX12_gift_70 : decode cX12_gift 70 = .ok (.iload_n 3, 1) := by decide +kernel
theorem dX12_gift_71 : decode cX12_gift 71 = .ok (.aload_n 0, 1) := by decide +kernel
theorem dX12_gift_72 : decode cX12_gift 72 = .ok (.getfield 80, 3) := by decide +kernel
theorem dX12_gift_75 : decode cX12_gift 75 = .ok (.iload_n 2, 1) := by decide +kernel
theorem dX12_gift_76 : decode cX12_gift 76 = .ok (.iaload, 1) := by decide +kernel
theorem dX12_gift_77 : decode cX12_gift 77 = .ok (.iastore, 1) := by decide +kernel
theorem dX12_gift_78 : decode cX12_gift 78 = .ok (.aload_n 0, 1) := by decide +kernel
theorem dX12_gift_79 : decode cX12_gift 79 = .ok (.getfield 80, 3) := by decide +kernel
theorem dX12_gift_82 : decode cX12_gift 82 = .ok (.iload_n 2, 1) := by decide +kernel
theorem dX12_gift_83 : decode cX12_gift 83 = .ok (.iload 4, 2) := by decide +kernel
theorem dX12_gift_85 : decode cX12_gift 85 = .ok (.iastore, 1) := by decide +kernel
theorem dX12_gift_86 : decode cX12_gift 86 = .ok (.iload_n 1, 1) := by decide +kernel
theorem dX12_gift_87 : decode cX12_gift 87 = .ok (.iload 4, 2) := by decide +kernel
theorem dX12_gift_89 : decode cX12_gift 89 = .ok (.iadd, 1) := by decide +kernel
theorem dX12_gift_90 : decode cX12_gift 90 = .ok (.istore_n 1, 1) := by decide +kernel
theorem dX12_gift_91 : decode cX12_gift 91 = .ok (.iinc 2 1, 3) := by decide +kernel
theorem dX12_gift_94 : decode cX12_gift 94 = .ok (.goto (-90), 3) := by decide +kernel
theorem dX12_gift_97 : decode cX12_gift 97 = .ok (.iload_n 1, 1) := by decide +kernel
theorem dX12_gift_98 : decode cX12_gift 98 = .ok (.ireturn, 1) := by decide +kernel
theorem dX12_vote_0 : decode cX12_vote 0 = .ok (.iload_n 1, 1) := by decide +kernel
theorem dX12_vote_1 : decode cX12_vote 1 = .ok (.invokestatic 115, 3) := by decide +kernel
theorem dX12_vote_4 : decode cX12_vote 4 = .ok (.ifCond .eq 12, 3) := by decide +kernel
theorem dX12_vote_7 : decode cX12_vote 7 = .ok (.iload_n 2, 1) := by decide +kernel
theorem dX12_vote_8 : decode cX12_vote 8 = .ok (.iconst 0, 1) := by decide +kernel
theorem dX12_vote_9 : decode cX12_vote 9 = .ok (.iconst 2, 1) := by decide +kernel
theorem dX12_vote_10 : decode cX12_vote 10 = .ok (.invokestatic 96, 3) := by decide +kernel
theorem dX12_vote_13 : decode cX12_vote 13 = .ok (.ifCond .ne 5, 3) := by decide +kernel
theorem dX12_vote_16 : decode cX12_vote 16 = .ok (.iconst (-1), 1) := by decide +kernel
theorem dX12_vote_17 : decode cX12_vote 17 = .ok (.ireturn, 1) := by decide +kernel
theorem dX12_vote_18 : decode cX12_vote 18 = .ok (.aload_n 0, 1) := by decide +kernel
theorem dX12_vote_19 : decode cX12_vote 19 = .ok (.iload_n 1, 1) := by decide +kernel
theorem dX12_vote_20 : decode cX12_vote 20 = .ok (.invokevirtual 363, 3) := by decide +kernel
theorem dX12_vote_23 : decode cX12_vote 23 = .ok (.iload_n 2, 1) := by decide +kernel
theorem dX12_vote_24 : decode cX12_vote 24 = .ok (.ifCond .ne 10, 3) := by decide +kernel
theorem dX12_vote_27 : decode cX12_vote 27 = .ok (.aload_n 0, 1) := by decide +kernel
theorem dX12_vote_28 : decode cX12_vote 28 = .ok (.getfield 357, 3) := by decide +kernel
theorem dX12_vote_31 : decode cX12_vote 31 = .ok (.goto 35, 3) := by decide +kernel
theorem dX12_vote_34 : decode cX12_vote 34 = .ok (.iload_n 2, 1) := by decide +kernel
theorem dX12_vote_35 : decode cX12_vote 35 = .ok (.iconst 1, 1) := by decide +kernel
theorem dX12_vote_36 : decode cX12_vote 36 = .ok (.if_icmp .ne 10, 3) := by decide +kernel
theorem dX12_vote_39 : decode cX12_vote 39 = .ok (.aload_n 0, 1) := by decide +kernel
theorem dX12_vote_40 : decode cX12_vote 40 = .ok (.getfield 360, 3) := by decide +kernel
theorem dX12_vote_43 : decode cX12_vote 43 = .ok (.goto 23, 3) := by decide +kernel
theorem dX12_vote_46 : decode cX12_vote 46 = .ok (.aload_n 0, 1) := by decide +kernel
theorem dX12_vote_47 : decode cX12_vote 47 = .ok (.getfield 357, 3) := by decide +kernel
theorem dX12_vote_50 : decode cX12_vote 50 = .ok (.aload_n 0, 1) := by decide +kernel
theorem dX12_vote_51 : decode cX12_vote 51 = .ok (.getfield 360, 3) := by decide +kernel
theorem dX12_vote_54 : decode cX12_vote 54 = .ok (.iadd, 1) := by decide +kernel
theorem dX12_vote_55 : decode cX12_vote 55 = .ok (.ifCond .ne 7, 3) := by decide +kernel
theorem dX12_vote_58 : decode cX12_vote 58 = .ok (.iconst (-1), 1) := by decide +kernel
theorem dX12_vote_59 : decode cX12_vote 59 = .ok (.goto 7, 3) := by decide +kernel
theorem dX12_vote_62 : decode cX12_vote 62 = .ok (.aload_n 0, 1) := by decide +kernel
theorem dX12_vote_63 : decode cX12_vote 63 = .ok (.invokevirtual 366, 3) := by decide +kernel
theorem dX12_vote_66 : decode cX12_vote 66 = .ok (.ireturn, 1) := by decide +kernel
theorem dX12_place_0 : decode cX12_place 0 = .ok (.aload_n 0, 1) := by decide +kernel
theorem dX12_place_1 : decode cX12_place 1 = .ok (.iload_n 1, 1) := by decide +kernel
theorem dX12_place_2 : decode cX12_place 2 = .ok (.invokevirtual 100, 3) := by decide +kernel
theorem dX12_place_5 : decode cX12_place 5 = .ok (.ifCond .eq 39, 3) := by decide +kernel
theorem dX12_place_8 : decode cX12_place 8 = .ok (.aload_n 0, 1) := by decide +kernel
theorem dX12_place_9 : decode cX12_place 9 = .ok (.getfield 7, 3) := by decide +kernel
theorem dX12_place_12 : decode cX12_place 12 = .ok (.bipush 20, 2) := by decide +kernel
theorem dX12_place_14 : decode cX12_place 14 = .ok (.iload_n 1, 1) := by decide +kernel
theorem dX12_place_15 : decode cX12_place 15 = .ok (.iadd, 1) := by decide +kernel
theorem dX12_place_16 : decode cX12_place 16 = .ok (.iaload, 1) := by decide +kernel
theorem dX12_place_17 : decode cX12_place 17 = .ok (.iconst 3, 1) := by decide +kernel
theorem dX12_place_18 : decode cX12_place 18 = .ok (.if_icmp .ne 26, 3) := by decide +kernel
theorem dX12_place_21 : decode cX12_place 21 = .ok (.iload_n 2, 1) := by decide +kernel
theorem dX12_place_22 : decode cX12_place 22 = .ok (.iconst 0, 1) := by decide +kernel
theorem dX12_place_23 : decode cX12_place 23 = .ok (.sipush 9999, 3) := by decide +kernel
theorem dX12_place_26 : decode cX12_place 26 = .ok (.invokestatic 96, 3) := by decide +kernel
theorem dX12_place_29 : decode cX12_place 29 = .ok (.ifCond .eq 15, 3) := by decide +kernel
theorem dX12_place_32 : decode cX12_place 32 = .ok (.aload_n 0, 1) := by decide +kernel
theorem dX12_place_33 : decode cX12_place 33 = .ok (.getfield 7, 3) := by decide +kernel
theorem dX12_place_36 : decode cX12_place 36 = .ok (.bipush 10, 2) := by decide +kernel
theorem dX12_place_38 : decode cX12_place 38 = .ok (.iaload, 1) := by decide +kernel
theorem dX12_place_39 : decode cX12_place 39 = .ok (.bipush 6, 2) := by decide +kernel
theorem dX12_place_41 : decode cX12_place 41 = .ok (.if_icmp .ne 5, 3) := by decide +kernel
theorem dX12_place_44 : decode cX12_place 44 = .ok (.iconst (-1), 1) := by decide +kernel
theorem dX12_place_45 : decode cX12_place 45 = .ok (.ireturn, 1) := by decide +kernel
theorem dX12_place_46 : decode cX12_place 46 = .ok (.aload_n 0, 1) := by decide +kernel
theorem dX12_place_47 : decode cX12_place 47 = .ok (.getfield 7, 3) := by decide +kernel
theorem dX12_place_50 : decode cX12_place 50 = .ok (.sipush 1600, 3) := by decide +kernel
theorem dX12_place_53 : decode cX12_place 53 = .ok (.iconst 2, 1) := by decide +kernel
theorem dX12_place_54 : decode cX12_place 54 = .ok (.aload_n 0, 1) := by decide +kernel
theorem dX12_place_55 : decode cX12_place 55 = .ok (.getfield 7, 3) := by decide +kernel
theorem dX12_place_58 : decode cX12_place 58 = .ok (.bipush 10, 2) := by decide +kernel
theorem dX12_place_60 : decode cX12_place 60 = .ok (.iaload, 1) := by decide +kernel
theorem dX12_place_61 : decode cX12_place 61 = .ok (.imul, 1) := by decide +kernel
theorem dX12_place_62 : decode cX12_place 62 = .ok (.iadd, 1) := by decide +kernel
theorem dX12_place_63 : decode cX12_place 63 = .ok (.iload_n 1, 1) := by decide +kernel
theorem dX12_place_64 : decode cX12_place 64 = .ok (.iastore, 1) := by decide +kernel
theorem dX12_place_65 : decode cX12_place 65 = .ok (.aload_n 0, 1) := by decide +kernel
theorem dX12_place_66 : decode cX12_place 66 = .ok (.getfield 7, 3) := by decide +kernel
theorem dX12_place_69 : decode cX12_place 69 = .ok (.sipush 1600, 3) := by decide +kernel
theorem dX12_place_72 : decode cX12_place 72 = .ok (.iconst 2, 1) := by decide +kernel
theorem dX12_place_73 : decode cX12_place 73 = .ok (.aload_n 0, 1) := by decide +kernel
theorem dX12_place_74 : decode cX12_place 74 = .ok (.getfield 7, 3) := by decide +kernel
theorem dX12_place_77 : decode cX12_place 77 = .ok (.bipush 10, 2) := by decide +kernel
theorem dX12_place_79 : decode cX12_place 79 = .ok (.iaload, 1) := by decide +kernel
theorem dX12_place_80 : decode cX12_place 80 = .ok (.imul, 1) := by decide +kernel
theorem dX12_place_81 : decode cX12_place 81 = .ok (.iadd, 1) := by decide +kernel
theorem dX12_place_82 : decode cX12_place 82 = .ok (.iconst 1, 1) := by decide +kernel
theorem dX12_place_83 : decode cX12_place 83 = .ok (.iadd, 1) := by decide +kernel
theorem dX12_place_84 : decode cX12_place 84 = .ok (.iload_n 2, 1) := by decide +kernel
theorem dX12_place_85 : decode cX12_place 85 = .ok (.iastore, 1) := by decide +kernel
theorem dX12_place_86 : decode cX12_place 86 = .ok (.aload_n 0, 1) := by decide +kernel
theorem dX12_place_87 : decode cX12_place 87 = .ok (.getfield 7, 3) := by decide +kernel
theorem dX12_place_90 : decode cX12_place 90 = .ok (.bipush 10, 2) := by decide +kernel
theorem dX12_place_92 : decode cX12_place 92 = .ok (.dup2, 1) := by decide +kernel
theorem dX12_place_93 : decode cX12_place 93 = .ok (.iaload, 1) := by decide +kernel
theorem dX12_place_94 : decode cX12_place 94 = .ok (.iconst 1, 1) := by decide +kernel
theorem dX12_place_95 : decode cX12_place 95 = .ok (.iadd, 1) := by decide +kernel
theorem dX12_place_96 : decode cX12_place 96 = .ok (.iastore, 1) := by decide +kernel
theorem dX12_place_97 : decode cX12_place 97 = .ok (.aload_n 0, 1) := by decide +kernel
theorem dX12_place_98 : decode cX12_place 98 = .ok (.getfield 7, 3) := by decide +kernel
theorem dX12_place_101 : decode cX12_place 101 = .ok (.bipush 10, 2) := by decide +kernel
theorem dX12_place_103 : decode cX12_place 103 = .ok (.iaload, 1) := by decide +kernel
theorem dX12_place_104 : decode cX12_place 104 = .ok (.iconst 1, 1) := by decide +kernel
theorem dX12_place_105 : decode cX12_place 105 = .ok (.isub, 1) := by decide +kernel
theorem dX12_place_106 : decode cX12_place 106 = .ok (.ireturn, 1) := by decide +kernel
theorem dX12_best_0 : decode cX12_best 0 = .ok (.iload_n 1, 1) := by decide +kernel
theorem dX12_best_1 : decode cX12_best 1 = .ok (.iconst 0, 1) := by decide +kernel
theorem dX12_best_2 : decode cX12_best 2 = .ok (.ldc_w 369, 3) := by decide +kernel
theorem dX12_best_5 : decode cX12_best 5 = .ok (.invokestatic 96, 3) := by decide +kernel
theorem dX12_best_8 : decode cX12_best 8 = .ok (.ifCond .eq 41, 3) := by decide +kernel
theorem dX12_best_11 : decode cX12_best 11 = .ok (.iload_n 2, 1) := by decide +kernel
theorem dX12_best_12 : decode cX12_best 12 = .ok (.invokestatic 115, 3) := by decide +kernel
theorem dX12_best_15 : decode cX12_best 15 = .ok (.ifCond .eq 34, 3) := by decide +kernel
theorem dX12_best_18 : decode cX12_best 18 = .ok (.iload_n 2, 1) := by decide +kernel
theorem dX12_best_19 : decode cX12_best 19 = .ok (.aload_n 0, 1) := by decide +kernel
theorem dX12_best_20 : decode cX12_best 20 = .ok (.getfield 7, 3) := by decide +kernel
theorem dX12_best_23 : decode cX12_best 23 = .ok (.iconst 0, 1) := by decide +kernel
theorem dX12_best_24 : decode cX12_best 24 = .ok (.iaload, 1) := by decide +kernel
theorem dX12_best_25 : decode cX12_best 25 = .ok (.aload_n 0, 1) := by decide +kernel
theorem dX12_best_26 : decode cX12_best 26 = .ok (.getfield 7, 3) := by decide +kernel
theorem dX12_best_29 : decode cX12_best 29 = .ok (.iconst 0, 1) := by decide +kernel
theorem dX12_best_30 : decode cX12_best 30 = .ok (.iaload, 1) := by decide +kernel
theorem dX12_best_31 : decode cX12_best 31 = .ok (.bipush 30, 2) := by decide +kernel
theorem dX12_best_33 : decode cX12_best 33 = .ok (.iadd, 1) := by decide +kernel
theorem dX12_best_34 : decode cX12_best 34 = .ok (.invokestatic 96, 3) := by decide +kernel
theorem dX12_best_37 : decode cX12_best 37 = .ok (.ifCond .eq 12, 3) := by decide +kernel
theorem dX12_best_40 : decode cX12_best 40 = .ok (.iload_n 3, 1) := by decide +kernel
theorem dX12_best_41 : decode cX12_best 41 = .ok (.iconst 0, 1) := by decide +kernel
theorem dX12_best_42 : decode cX12_best 42 = .ok (.iconst 2, 1) := by decide +kernel
theorem dX12_best_43 : decode cX12_best 43 = .ok (.invokestatic 96, 3) := by decide +kernel
theorem dX12_best_46 : decode cX12_best 46 = .ok (.ifCond .ne 5, 3) := by decide +kernel
theorem dX12_best_49 : decode cX12_best 49 = .ok (.iconst (-1), 1) := by decide +kernel
theorem dX12_best_50 : decode cX12_best 50 = .ok (.ireturn, 1) := by decide +kernel
theorem dX12_best_51 : decode cX12_best 51 = .ok (.aload_n 0, 1) := by decide +kernel
theorem dX12_best_52 : decode cX12_best 52 = .ok (.invokevirtual 149, 3) := by decide +kernel
theorem dX12_best_55 : decode cX12_best 55 = .ok (.aload_n 0, 1) := by decide +kernel
theorem dX12_best_56 : decode cX12_best 56 = .ok (.aload_n 0, 1) := by decide +kernel
theorem dX12_best_57 : decode cX12_best 57 = .ok (.getfield 7, 3) := by decide +kernel
theorem dX12_best_60 : decode cX12_best 60 = .ok (.iconst 0, 1) := by decide +kernel
theorem dX12_best_61 : decode cX12_best 61 = .ok (.iaload, 1) := by decide +kernel
theorem dX12_best_62 : decode cX12_best 62 = .ok (.invokevirtual 152, 3) := by decide +kernel
theorem dX12_best_65 : decode cX12_best 65 = .ok (.ifCond .ne 5, 3) := by decide +kernel
theorem dX12_best_68 : decode cX12_best 68 = .ok (.iconst (-1), 1) := by decide +kernel
theorem dX12_best_69 : decode cX12_best 69 = .ok (.ireturn, 1) := by decide +kernel
theorem dX12_best_70 : decode cX12_best 70 = .ok (.iconst 0, 1) := by decide +kernel
theorem dX12_best_71 : decode cX12_best 71 = .ok (.istore 4, 2) := by decide +kernel
theorem dX12_best_73 : decode cX12_best 73 = .ok (.iload 4, 2) := by decide +kernel
theorem dX12_best_75 : decode cX12_best 75 = .ok (.aload_n 0, 1) := by decide +kernel
theorem dX12_best_76 : decode cX12_best 76 = .ok (.getfield 7, 3) := by decide +kernel
theorem dX12_best_79 : decode cX12_best 79 = .ok (.iconst 3, 1) := by decide +kernel
theorem dX12_best_80 : decode cX12_best 80 = .ok (.iaload, 1) := by decide +kernel
theorem dX12_best_81 : decode cX12_best 81 = .ok (.if_icmp .ge 28, 3) := by decide +kernel
theorem dX12_best_84 : decode cX12_best 84 = .ok (.aload_n 0, 1) := by decide +kernel
theorem dX12_best_85 : decode cX12_best 85 = .ok (.getfield 83, 3) := by decide +kernel
theorem dX12_best_88 : decode cX12_best 88 = .ok (.iload 4, 2) := by decide +kernel
theorem dX12_best_90 : decode cX12_best 90 = .ok (.aload_n 0, 1) := by decide +kernel
theorem dX12_best_91 : decode cX12_best 91 = .ok (.iload 4, 2) := by decide +kernel
theorem dX12_best_93 : decode cX12_best 93 = .ok (.aload_n 0, 1) := by decide +kernel
theorem dX12_best_94 : decode cX12_best 94 = .ok (.getfield 7, 3) := by decide +kernel
theorem dX12_best_97 : decode cX12_best 97 = .ok (.iconst 0, 1) := by decide +kernel
theorem dX12_best_98 : decode cX12_best 98 = .ok (.iaload, 1) := by decide +kernel
theorem dX12_best_99 : decode cX12_best 99 = .ok (.invokevirtual 145, 3) := by decide +kernel
theorem dX12_best_102 : decode cX12_best 102 = .ok (.bastore, 1) := by decide +kernel
theorem dX12_best_103 : decode cX12_best 103 = .ok (.iinc 4 1, 3) := by decide +kernel
theorem dX12_best_106 : decode cX12_best 106 = .ok (.goto (-33), 3) := by decide +kernel
theorem dX12_best_109 : decode cX12_best 109 = .ok (.iconst (-1), 1) := by decide +kernel
theorem dX12_best_110 : decode cX12_best 110 = .ok (.istore 4, 2) := by decide +kernel
theorem dX12_best_112 : decode cX12_best 112 = .ok (.iconst 0, 1) := by decide +kernel
theorem dX12_best_113 : decode cX12_best 113 = .ok (.istore 5, 2) := by decide +kernel
theorem dX12_best_115 : decode cX12_best 115 = .ok (.iconst 0, 1) := by decide +kernel
theorem dX12_best_116 : decode cX12_best 116 = .ok (.istore 6, 2) := by decide +kernel
theorem dX12_best_118 : decode cX12_best 118 = .ok (.iconst 0, 1) := by decide +kernel
theorem dX12_best_119 : decode cX12_best 119 = .ok (.istore 7, 2) := by decide +kernel
theorem dX12_best_121 : decode cX12_best 121 = .ok (.iload 7, 2) := by decide +kernel
theorem dX12_best_123 : decode cX12_best 123 = .ok (.iconst 1, 1) := by decide +kernel
theorem dX12_best_124 : decode cX12_best 124 = .ok (.aload_n 0, 1) := by decide +kernel
theorem dX12_best_125 : decode cX12_best 125 = .ok (.getfield 7, 3) := by decide +kernel
theorem dX12_best_128 : decode cX12_best 128 = .ok (.bipush 10, 2) := by decide +kernel
theorem dX12_best_130 : decode cX12_best 130 = .ok (.iaload, 1) := by decide +kernel
theorem dX12_best_131 : decode cX12_best 131 = .ok (.ishl, 1) := by decide +kernel
theorem dX12_best_132 : decode cX12_best 132 = .ok (.if_icmp .ge 177, 3) := by decide +kernel
theorem dX12_best_135 : decode cX12_best 135 = .ok (.iconst 0, 1) := by decide +kernel
theorem dX12_best_136 : decode cX12_best 136 = .ok (.istore 8, 2) := by decide +kernel
theorem dX12_best_138 : decode cX12_best 138 = .ok (.iconst 0, 1) := by decide +kernel
theorem dX12_best_139 : decode cX12_best 139 = .ok (.istore 9, 2) := by decide +kernel
theorem dX12_best_141 : decode cX12_best 141 = .ok (.iload 9, 2) := by decide +kernel
theorem dX12_best_143 : decode cX12_best 143 = .ok (.aload_n 0, 1) := by decide +kernel
theorem dX12_best_144 : decode cX12_best 144 = .ok (.getfield 7, 3) := by decide +kernel
theorem dX12_best_147 : decode cX12_best 147 = .ok (.bipush 10, 2) := by decide +kernel
theorem dX12_best_149 : decode cX12_best 149 = .ok (.iaload, 1) := by decide +kernel
theorem dX12_best_150 : decode cX12_best 150 = .ok (.if_icmp .ge 37, 3) := by decide +kernel
theorem dX12_best_153 : decode cX12_best 153 = .ok (.iload 8, 2) := by decide +kernel
theorem dX12_best_155 : decode cX12_best 155 = .ok (.iload 7, 2) := by decide +kernel
theorem dX12_best_157 : decode cX12_best 157 = .ok (.iload 9, 2) := by decide +kernel
theorem dX12_best_159 : decode cX12_best 159 = .ok (.ishr, 1) := by decide +kernel
theorem dX12_best_160 : decode cX12_best 160 = .ok (.iconst 1, 1) := by decide +kernel
theorem dX12_best_161 : decode cX12_best 161 = .ok (.iand, 1) := by decide +kernel
theorem dX12_best_162 : decode cX12_best 162 = .ok (.aload_n 0, 1) := by decide +kernel
theorem dX12_best_163 : decode cX12_best 163 = .ok (.getfield 7, 3) := by decide +kernel
theorem dX12_best_166 : decode cX12_best 166 = .ok (.sipush 1600, 3) := by decide +kernel
theorem dX12_best_169 : decode cX12_best 169 = .ok (.iconst 2, 1) := by decide +kernel
theorem dX12_best_170 : decode cX12_best 170 = .ok (.iload 9, 2) := by decide +kernel
theorem dX12_best_172 : decode cX12_best 172 = .ok (.imul, 1) := by decide +kernel
theorem dX12_best_173 : decode cX12_best 173 = .ok (.iadd, 1) := by decide +kernel
theorem dX12_best_174 : decode cX12_best 174 = .ok (.iconst 1, 1) := by decide +kernel
theorem dX12_best_175 : decode cX12_best 175 = .ok (.iadd, 1) := by decide +kernel
theorem dX12_best_176 : decode cX12_best 176 = .ok (.iaload, 1) := by decide +kernel
theorem dX12_best_177 : decode cX12_best 177 = .ok (.imul, 1) := by decide +kernel
theorem dX12_best_178 : decode cX12_best 178 = .ok (.iadd, 1) := by decide +kernel
theorem dX12_best_179 : decode cX12_best 179 = .ok (.istore 8, 2) := by decide +kernel
theorem dX12_best_181 : decode cX12_best 181 = .ok (.iinc 9 1, 3) := by decide +kernel
theorem dX12_best_184 : decode cX12_best 184 = .ok (.goto (-43), 3) := by decide +kernel
theorem dX12_best_187 : decode cX12_best 187 = .ok (.iload 8, 2) := by decide +kernel
theorem dX12_best_189 : decode cX12_best 189 = .ok (.iload_n 1, 1) := by decide +kernel
theorem dX12_best_190 : decode cX12_best 190 = .ok (.if_icmp .le 6, 3) := by decide +kernel
theorem dX12_best_193 : decode cX12_best 193 = .ok (.goto 110, 3) := by decide +kernel
theorem dX12_best_196 : decode cX12_best 196 = .ok (.iconst 0, 1) := by decide +kernel
theorem dX12_best_197 : decode cX12_best 197 = .ok (.istore 9, 2) := by decide +kernel
theorem dX12_best_199 : decode cX12_best 199 = .ok (.iconst 0, 1) := by decide +kernel
theorem dX12_best_200 : decode cX12_best 200 = .ok (.istore 10, 2) := by decide +kernel
theorem dX12_best_202 : decode cX12_best 202 = .ok (.iload 10, 2) := by decide +kernel
theorem dX12_best_204 : decode cX12_best 204 = .ok (.aload_n 0, 1) := by decide +kernel
theorem dX12_best_205 : decode cX12_best 205 = .ok (.getfield 7, 3) := by decide +kernel
theorem dX12_best_208 : decode cX12_best 208 = .ok (.iconst 3, 1) := by decide +kernel
theorem dX12_best_209 : decode cX12_best 209 = .ok (.iaload, 1) := by decide +kernel
theorem dX12_best_210 : decode cX12_best 210 = .ok (.if_icmp .ge 52, 3) := by decide +kernel
theorem dX12_best_213 : decode cX12_best 213 = .ok (.aload_n 0, 1) := by decide +kernel
theorem dX12_best_214 : decode cX12_best 214 = .ok (.getfield 83, 3) := by decide +kernel
theorem dX12_best_217 : decode cX12_best 217 = .ok (.iload 10, 2) := by decide +kernel
theorem dX12_best_219 : decode cX12_best 219 = .ok (.baload, 1) := by decide +kernel
theorem dX12_best_220 : decode cX12_best 220 = .ok (.ifCond .ne 6, 3) := by decide +kernel
theorem dX12_best_223 : decode cX12_best 223 = .ok (.goto 33, 3) := by decide +kernel
theorem dX12_best_226 : decode cX12_best 226 = .ok (.aload_n 0, 1) := by decide +kernel
theorem dX12_best_227 : decode cX12_best 227 = .ok (.iload 10, 2) := by decide +kernel
theorem dX12_best_229 : decode cX12_best 229 = .ok (.iload_n 2, 1) := by decide +kernel
theorem dX12_best_230 : decode cX12_best 230 = .ok (.iconst (-1), 1) := by decide +kernel
theorem dX12_best_231 : decode cX12_best 231 = .ok (.iload 7, 2) := by decide +kernel
theorem dX12_best_233 : decode cX12_best 233 = .ok (.invokevirtual 135, 3) := by decide +kernel
theorem dX12_best_236 : decode cX12_best 236 = .ok (.aload_n 0, 1) := by decide +kernel
theorem dX12_best_237 : decode cX12_best 237 = .ok (.iload 10, 2) := by decide +kernel
theorem dX12_best_239 : decode cX12_best 239 = .ok (.iload_n 2, 1) := by decide +kernel
theorem dX12_best_240 : decode cX12_best 240 = .ok (.invokevirtual 142, 3) := by decide +kernel
theorem dX12_best_243 : decode cX12_best 243 = .ok (.istore 11, 2) := by decide +kernel
theorem dX12_best_245 : decode cX12_best 245 = .ok (.iload 11, 2) := by decide +kernel
theorem dX12_best_247 : decode cX12_best 247 = .ok (.iload 9, 2) := by decide +kernel
theorem dX12_best_249 : decode cX12_best 249 = .ok (.if_icmp .le 7, 3) := by decide +kernel
theorem dX12_best_252 : decode cX12_best 252 = .ok (.iload 11, 2) := by decide +kernel
theorem dX12_best_254 : decode cX12_best 254 = .ok (.istore 9, 2) := by decide +kernel
theorem dX12_best_256 : decode cX12_best 256 = .ok (.iinc 10 1, 3) := by decide +kernel
theorem dX12_best_259 : decode cX12_best 259 = .ok (.goto (-57), 3) := by decide +kernel
theorem dX12_best_262 : decode cX12_best 262 = .ok (.iload 4, 2) := by decide +kernel
theorem dX12_best_264 : decode cX12_best 264 = .ok (.ifCond .lt 27, 3) := by decide +kernel
theorem dX12_best_267 : decode cX12_best 267 = .ok (.iload 9, 2) := by decide +kernel
theorem dX12_best_269 : decode cX12_best 269 = .ok (.iload 5, 2) := by decide +kernel
theorem dX12_best_271 : decode cX12_best 271 = .ok (.if_icmp .gt 32, 3) := by decide +kernel
theorem dX12_best_274 : decode cX12_best 274 = .ok (.iload 9, 2) := by decide +kernel
theorem dX12_best_276 : decode cX12_best 276 = .ok (.iload 5, 2) := by decide +kernel
theorem dX12_best_278 : decode cX12_best 278 = .ok (.if_icmp .ne 13, 3) := by decide +kernel
theorem dX12_best_281 : decode cX12_best 281 = .ok (.iload 8, 2) := by decide +kernel
theorem dX12_best_283 : decode cX12_best 283 = .ok (.iload 6, 2) := by decide +kernel
theorem dX12_best_285 : decode cX12_best 285 = .ok (.if_icmp .lt 6, 3) := by decide +kernel
theorem dX12_best_288 : decode cX12_best 288 = .ok (.goto 15, 3) := by decide +kernel
theorem dX12_best_291 : decode cX12_best 291 = .ok (.iload 7, 2) := by decide +kernel
theorem dX12_best_293 : decode cX12_best 293 = .ok (.istore 4, 2) := by decide +kernel
theorem dX12_best_295 : decode cX12_best 295 = .ok (.iload 9, 2) := by decide +kernel
theorem dX12_best_297 : decode cX12_best 297 = .ok (.istore 5, 2) := by decide +kernel
theorem dX12_best_299 : decode cX12_best 299 = .ok (.iload 8, 2) := by decide +kernel
theorem dX12_best_301 : decode cX12_best 301 = .ok (.istore 6, 2) := by decide +kernel
theorem dX12_best_303 : decode cX12_best 303 = .ok (.iinc 7 1, 3) := by decide +kernel
theorem dX12_best_306 : decode cX12_best 306 = .ok (.goto (-185), 3) := by decide +kernel
theorem dX12_best_309 : decode cX12_best 309 = .ok (.iload_n 3, 1) := by decide +kernel
theorem dX12_best_310 : decode cX12_best 310 = .ok (.ifCond .ne 8, 3) := by decide +kernel
theorem dX12_best_313 : decode cX12_best 313 = .ok (.iload 4, 2) := by decide +kernel
theorem dX12_best_315 : decode cX12_best 315 = .ok (.goto 15, 3) := by decide +kernel
theorem dX12_best_318 : decode cX12_best 318 = .ok (.iload_n 3, 1) := by decide +kernel
theorem dX12_best_319 : decode cX12_best 319 = .ok (.iconst 1, 1) := by decide +kernel
theorem dX12_best_320 : decode cX12_best 320 = .ok (.if_icmp .ne 8, 3) := by decide +kernel
theorem dX12_best_323 : decode cX12_best 323 = .ok (.iload 6, 2) := by decide +kernel
theorem dX12_best_325 : decode cX12_best 325 = .ok (.goto 5, 3) := by decide +kernel
theorem dX12_best_328 : decode cX12_best 328 = .ok (.iload 5, 2) := by decide +kernel
theorem dX12_best_330 : decode cX12_best 330 = .ok (.ireturn, 1) := by decide +kernel
theorem dX12_image_0 : decode cX12_image 0 = .ok (.aload_n 0, 1) := by decide +kernel
theorem dX12_image_1 : decode cX12_image 1 = .ok (.getfield 7, 3) := by decide +kernel
theorem dX12_image_4 : decode cX12_image 4 = .ok (.aload_n 0, 1) := by decide +kernel
theorem dX12_image_5 : decode cX12_image 5 = .ok (.getfield 13, 3) := by decide +kernel
theorem dX12_image_8 : decode cX12_image 8 = .ok (.invokestatic 92, 3) := by decide +kernel
theorem dX12_image_11 : decode cX12_image 11 = .ok (.aload_n 0, 1) := by decide +kernel
theorem dX12_image_12 : decode cX12_image 12 = .ok (.getfield 7, 3) := by decide +kernel
theorem dX12_image_15 : decode cX12_image 15 = .ok (.iconst 0, 1) := by decide +kernel
theorem dX12_image_16 : decode cX12_image 16 = .ok (.iaload, 1) := by decide +kernel
theorem dX12_image_17 : decode cX12_image 17 = .ok (.ireturn, 1) := by decide +kernel
theorem dX12_back_0 : decode cX12_back 0 = .ok (.aload_n 0, 1) := by decide +kernel
theorem dX12_back_1 : decode cX12_back 1 = .ok (.getfield 13, 3) := by decide +kernel
theorem dX12_back_4 : decode cX12_back 4 = .ok (.aload_n 0, 1) := by decide +kernel
theorem dX12_back_5 : decode cX12_back 5 = .ok (.getfield 7, 3) := by decide +kernel
theorem dX12_back_8 : decode cX12_back 8 = .ok (.invokestatic 92, 3) := by decide +kernel
theorem dX12_back_11 : decode cX12_back 11 = .ok (.aload_n 0, 1) := by decide +kernel
theorem dX12_back_12 : decode cX12_back 12 = .ok (.getfield 7, 3) := by decide +kernel
theorem dX12_back_15 : decode cX12_back 15 = .ok (.iconst 0, 1) := by decide +kernel
theorem dX12_back_16 : decode cX12_back 16 = .ok (.iaload, 1) := by decide +kernel
theorem dX12_back_17 : decode cX12_back 17 = .ok (.ireturn, 1) := by decide +kernel
theorem dX12_about_0 : decode cX12_about 0 = .ok (.iload_n 1, 1) := by decide +kernel
theorem dX12_about_1 : decode cX12_about 1 = .ok (.tableswitch 168 0 13 #[71, 78, 83, 88, 95, 102, 109, 116, 123, 131, 139, 147, 155, 163], 71) := by decide +kernel
theorem dX12_about_72 : decode cX12_about 72 = .ok (.aload_n 0, 1) := by decide +kernel
theorem dX12_about_73 : decode cX12_about 73 = .ok (.getfield 7, 3) := by decide +kernel
theorem dX12_about_76 : decode cX12_about 76 = .ok (.iconst 0, 1) := by decide +kernel
theorem dX12_about_77 : decode cX12_about 77 = .ok (.iaload, 1) := by decide +kernel
theorem dX12_about_78 : decode cX12_about 78 = .ok (.ireturn, 1) := by decide +kernel
theorem dX12_about_79 : decode cX12_about 79 = .ok (.aload_n 0, 1) := by decide +kernel
theorem dX12_about_80 : decode cX12_about 80 = .ok (.getfield 86, 3) := by decide +kernel
theorem dX12_about_83 : decode cX12_about 83 = .ok (.ireturn, 1) := by decide +kernel
theorem dX12_about_84 : decode cX12_about 84 = .ok (.aload_n 0, 1) := by decide +kernel
theorem dX12_about_85 : decode cX12_about 85 = .ok (.getfield 89, 3) := by decide +kernel
theorem dX12_about_88 : decode cX12_about 88 = .ok (.ireturn, 1) := by decide +kernel
theorem dX12_about_89 : decode cX12_about 89 = .ok (.aload_n 0, 1) := by decide +kernel
theorem dX12_about_90 : decode cX12_about 90 = .ok (.getfield 7, 3) := by decide +kernel
theorem dX12_about_93 : decode cX12_about 93 = .ok (.iconst 1, 1) := by decide +kernel
theorem dX12_about_94 : decode cX12_about 94 = .ok (.iaload, 1) := by decide +kernel
theorem dX12_about_95 : decode cX12_about 95 = .ok (.ireturn, 1) := by decide +kernel
theorem dX12_about_96 : decode cX12_about 96 = .ok (.aload_n 0, 1) := by decide +kernel
theorem dX12_about_97 : decode cX12_about 97 = .ok (.getfield 7, 3) := by decide +kernel
theorem dX12_about_100 : decode cX12_about 100 = .ok (.iconst 2, 1) := by decide +kernel
theorem dX12_about_101 : decode cX12_about 101 = .ok (.iaload, 1) := by decide +kernel
theorem dX12_about_102 : decode cX12_about 102 = .ok (.ireturn, 1) := by decide +kernel
theorem dX12_about_103 : decode cX12_about 103 = .ok (.aload_n 0, 1) := by decide +kernel
theorem dX12_about_104 : decode cX12_about 104 = .ok (.getfield 7, 3) := by decide +kernel
theorem dX12_about_107 : decode cX12_about 107 = .ok (.iconst 3, 1) := by decide +kernel
theorem dX12_about_108 : decode cX12_about 108 = .ok (.iaload, 1) := by decide +kernel
theorem dX12_about_109 : decode cX12_about 109 = .ok (.ireturn, 1) := by decide +kernel
theorem dX12_about_110 : decode cX12_about 110 = .ok (.aload_n 0, 1) := by decide +kernel
theorem dX12_about_111 : decode cX12_about 111 = .ok (.getfield 7, 3) := by decide +kernel
theorem dX12_about_114 : decode cX12_about 114 = .ok (.iconst 4, 1) := by decide +kernel
theorem dX12_about_115 : decode cX12_about 115 = .ok (.iaload, 1) := by decide +kernel
theorem dX12_about_116 : decode cX12_about 116 = .ok (.ireturn, 1) := by decide +kernel
theorem dX12_about_117 : decode cX12_about 117 = .ok (.aload_n 0, 1) := by decide +kernel
theorem dX12_about_118 : decode cX12_about 118 = .ok (.getfield 7, 3) := by decide +kernel
theorem dX12_about_121 : decode cX12_about 121 = .ok (.iconst 5, 1) := by decide +kernel
theorem dX12_about_122 : decode cX12_about 122 = .ok (.iaload, 1) := by decide +kernel
theorem dX12_about_123 : decode cX12_about 123 = .ok (.ireturn, 1) := by decide +kernel
theorem dX12_about_124 : decode cX12_about 124 = .ok (.aload_n 0, 1) := by decide +kernel
theorem dX12_about_125 : decode cX12_about 125 = .ok (.getfield 7, 3) := by decide +kernel
theorem dX12_about_128 : decode cX12_about 128 = .ok (.bipush 6, 2) := by decide +kernel
theorem dX12_about_130 : decode cX12_about 130 = .ok (.iaload, 1) := by decide +kernel
theorem dX12_about_131 : decode cX12_about 131 = .ok (.ireturn, 1) := by decide +kernel
theorem dX12_about_132 : decode cX12_about 132 = .ok (.aload_n 0, 1) := by decide +kernel
theorem dX12_about_133 : decode cX12_about 133 = .ok (.getfield 7, 3) := by decide +kernel
theorem dX12_about_136 : decode cX12_about 136 = .ok (.bipush 7, 2) := by decide +kernel
theorem dX12_about_138 : decode cX12_about 138 = .ok (.iaload, 1) := by decide +kernel
theorem dX12_about_139 : decode cX12_about 139 = .ok (.ireturn, 1) := by decide +kernel
theorem dX12_about_140 : decode cX12_about 140 = .ok (.aload_n 0, 1) := by decide +kernel
