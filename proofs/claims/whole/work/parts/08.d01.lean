theorem dX3_fillLayer_75 : decode cX3_fillLayer 75 = .ok (.iload 9, 2) := by decide +kernel
theorem dX3_fillLayer_77 : decode cX3_fillLayer 77 = .ok (.isub, 1) := by decide +kernel
theorem dX3_fillLayer_78 : decode cX3_fillLayer 78 = .ok (.istore 4, 2) := by decide +kernel
theorem dX3_fillLayer_80 : decode cX3_fillLayer 80 = .ok (.iinc 7 1, 3) := by decide +kernel
theorem dX3_fillLayer_83 : decode cX3_fillLayer 83 = .ok (.goto (-74), 3) := by decide +kernel
theorem dX3_fillLayer_86 : decode cX3_fillLayer 86 = .ok (.iload 4, 2) := by decide +kernel
theorem dX3_fillLayer_88 : decode cX3_fillLayer 88 = .ok (.ireturn, 1) := by decide +kernel
theorem dX3_noteFull_0 : decode cX3_noteFull 0 = .ok (.lconst 0, 1) := by decide +kernel
theorem dX3_noteFull_1 : decode cX3_noteFull 1 = .ok (.lstore_n 2, 1) := by decide +kernel
theorem dX3_noteFull_2 : decode cX3_noteFull 2 = .ok (.iconst 0, 1) := by decide +kernel
theorem dX3_noteFull_3 : decode cX3_noteFull 3 = .ok (.istore 4, 2) := by decide +kernel
theorem dX3_noteFull_5 : decode cX3_noteFull 5 = .ok (.iload 4, 2) := by decide +kernel
theorem dX3_noteFull_7 : decode cX3_noteFull 7 = .ok (.aload_n 0, 1) := by decide +kernel
theorem dX3_noteFull_8 : decode cX3_noteFull 8 = .ok (.getfield 35, 3) := by decide +kernel
theorem dX3_noteFull_11 : decode cX3_noteFull 11 = .ok (.getfield 85, 3) := by decide +kernel
theorem dX3_noteFull_14 : decode cX3_noteFull 14 = .ok (.if_icmp .ge 29, 3) := by decide +kernel
theorem dX3_noteFull_17 : decode cX3_noteFull 17 = .ok (.aload_n 0, 1) := by decide +kernel
theorem dX3_noteFull_18 : decode cX3_noteFull 18 = .ok (.getfield 18, 3) := by decide +kernel
theorem dX3_noteFull_21 : decode cX3_noteFull 21 = .ok (.iload 4, 2) := by decide +kernel
theorem dX3_noteFull_23 : decode cX3_noteFull 23 = .ok (.iaload, 1) := by decide +kernel
theorem dX3_noteFull_24 : decode cX3_noteFull 24 = .ok (.bipush 20, 2) := by decide +kernel
theorem dX3_noteFull_26 : decode cX3_noteFull 26 = .ok (.if_icmp .lt 11, 3) := by decide +kernel
theorem dX3_noteFull_29 : decode cX3_noteFull 29 = .ok (.lload_n 2, 1) := by decide +kernel
theorem dX3_noteFull_30 : decode cX3_noteFull 30 = .ok (.iload 4, 2) := by decide +kernel
theorem dX3_noteFull_32 : decode cX3_noteFull 32 = .ok (.invokestatic 55, 3) := by decide +kernel
theorem dX3_noteFull_35 : decode cX3_noteFull 35 = .ok (.lor, 1) := by decide +kernel
theorem dX3_noteFull_36 : decode cX3_noteFull 36 = .ok (.lstore_n 2, 1) := by decide +kernel
theorem dX3_noteFull_37 : decode cX3_noteFull 37 = .ok (.iinc 4 1, 3) := by decide +kernel
theorem dX3_noteFull_40 : decode cX3_noteFull 40 = .ok (.goto (-35), 3) := by decide +kernel
theorem dX3_noteFull_43 : decode cX3_noteFull 43 = .ok (.iload_n 1, 1) := by decide +kernel
theorem dX3_noteFull_44 : decode cX3_noteFull 44 = .ok (.iconst 1, 1) := by decide +kernel
theorem dX3_noteFull_45 : decode cX3_noteFull 45 = .ok (.iadd, 1) := by decide +kernel
theorem dX3_noteFull_46 : decode cX3_noteFull 46 = .ok (.istore 4, 2) := by decide +kernel
theorem dX3_noteFull_48 : decode cX3_noteFull 48 = .ok (.iload 4, 2) := by decide +kernel
theorem dX3_noteFull_50 : decode cX3_noteFull 50 = .ok (.bipush 100, 2) := by decide +kernel
theorem dX3_noteFull_52 : decode cX3_noteFull 52 = .ok (.if_icmp .ge 17, 3) := by decide +kernel
theorem dX3_noteFull_55 : decode cX3_noteFull 55 = .ok (.aload_n 0, 1) := by decide +kernel
theorem dX3_noteFull_56 : decode cX3_noteFull 56 = .ok (.getfield 21, 3) := by decide +kernel
theorem dX3_noteFull_59 : decode cX3_noteFull 59 = .ok (.iload 4, 2) := by decide +kernel
theorem dX3_noteFull_61 : decode cX3_noteFull 61 = .ok (.lload_n 2, 1) := by decide +kernel
theorem dX3_noteFull_62 : decode cX3_noteFull 62 = .ok (.lastore, 1) := by decide +kernel
theorem dX3_noteFull_63 : decode cX3_noteFull 63 = .ok (.iinc 4 1, 3) := by decide +kernel
theorem dX3_noteFull_66 : decode cX3_noteFull 66 = .ok (.goto (-18), 3) := by decide +kernel
theorem dX3_noteFull_69 : decode cX3_noteFull 69 = .ok (.return_, 1) := by decide +kernel
theorem dX4_init_0 : decode cX4_init 0 = .ok (.aload_n 0, 1) := by decide +kernel
theorem dX4_init_1 : decode cX4_init 1 = .ok (.invokespecial 3, 3) := by decide +kernel
theorem dX4_init_4 : decode cX4_init 4 = .ok (.aload_n 0, 1) := by decide +kernel
theorem dX4_init_5 : decode cX4_init 5 = .ok (.bipush 8, 2) := by decide +kernel
theorem dX4_init_7 : decode cX4_init 7 = .ok (.newarray .int, 2) := by decide +kernel
theorem dX4_init_9 : decode cX4_init 9 = .ok (.putfield 9, 3) := by decide +kernel
theorem dX4_init_12 : decode cX4_init 12 = .ok (.aload_n 0, 1) := by decide +kernel
theorem dX4_init_13 : decode cX4_init 13 = .ok (.bipush 8, 2) := by decide +kernel
theorem dX4_init_15 : decode cX4_init 15 = .ok (.newarray .int, 2) := by decide +kernel
theorem dX4_init_17 : decode cX4_init 17 = .ok (.putfield 15, 3) := by decide +kernel
theorem dX4_init_20 : decode cX4_init 20 = .ok (.aload_n 0, 1) := by decide +kernel
theorem dX4_init_21 : decode cX4_init 21 = .ok (.sipush 200, 3) := by decide +kernel
theorem dX4_init_24 : decode cX4_init 24 = .ok (.newarray .int, 2) := by decide +kernel
theorem dX4_init_26 : decode cX4_init 26 = .ok (.putfield 18, 3) := by decide +kernel
theorem dX4_init_29 : decode cX4_init 29 = .ok (.aload_n 0, 1) := by decide +kernel
theorem dX4_init_30 : decode cX4_init 30 = .ok (.sipush 200, 3) := by decide +kernel
theorem dX4_init_33 : decode cX4_init 33 = .ok (.newarray .int, 2) := by decide +kernel
theorem dX4_init_35 : decode cX4_init 35 = .ok (.putfield 21, 3) := by decide +kernel
theorem dX4_init_38 : decode cX4_init 38 = .ok (.aload_n 0, 1) := by decide +kernel
theorem dX4_init_39 : decode cX4_init 39 = .ok (.sipush 200, 3) := by decide +kernel
theorem dX4_init_42 : decode cX4_init 42 = .ok (.newarray .int, 2) := by decide +kernel
theorem dX4_init_44 : decode cX4_init 44 = .ok (.putfield 24, 3) := by decide +kernel
theorem dX4_init_47 : decode cX4_init 47 = .ok (.aload_n 0, 1) := by decide +kernel
theorem dX4_init_48 : decode cX4_init 48 = .ok (.sipush 200, 3) := by decide +kernel
theorem dX4_init_51 : decode cX4_init 51 = .ok (.newarray .int, 2) := by decide +kernel
theorem dX4_init_53 : decode cX4_init 53 = .ok (.putfield 27, 3) := by decide +kernel
theorem dX4_init_56 : decode cX4_init 56 = .ok (.return_, 1) := by decide +kernel
theorem dX4_take_0 : decode cX4_take 0 = .ok (.aload_n 0, 1) := by decide +kernel
theorem dX4_take_1 : decode cX4_take 1 = .ok (.aload_n 1, 1) := by decide +kernel
theorem dX4_take_2 : decode cX4_take 2 = .ok (.getfield 30, 3) := by decide +kernel
theorem dX4_take_5 : decode cX4_take 5 = .ok (.putfield 30, 3) := by decide +kernel
theorem dX4_take_8 : decode cX4_take 8 = .ok (.aload_n 1, 1) := by decide +kernel
theorem dX4_take_9 : decode cX4_take 9 = .ok (.getfield 9, 3) := by decide +kernel
theorem dX4_take_12 : decode cX4_take 12 = .ok (.iconst 0, 1) := by decide +kernel
theorem dX4_take_13 : decode cX4_take 13 = .ok (.aload_n 0, 1) := by decide +kernel
theorem dX4_take_14 : decode cX4_take 14 = .ok (.getfield 9, 3) := by decide +kernel
theorem dX4_take_17 : decode cX4_take 17 = .ok (.iconst 0, 1) := by decide +kernel
theorem dX4_take_18 : decode cX4_take 18 = .ok (.bipush 8, 2) := by decide +kernel
theorem dX4_take_20 : decode cX4_take 20 = .ok (.invokestatic 34, 3) := by decide +kernel
theorem dX4_take_23 : decode cX4_take 23 = .ok (.aload_n 1, 1) := by decide +kernel
theorem dX4_take_24 : decode cX4_take 24 = .ok (.getfield 15, 3) := by decide +kernel
theorem dX4_take_27 : decode cX4_take 27 = .ok (.iconst 0, 1) := by decide +kernel
theorem dX4_take_28 : decode cX4_take 28 = .ok (.aload_n 0, 1) := by decide +kernel
theorem dX4_take_29 : decode cX4_take 29 = .ok (.getfield 15, 3) := by decide +kernel
theorem dX4_take_32 : decode cX4_take 32 = .ok (.iconst 0, 1) := by decide +kernel
theorem dX4_take_33 : decode cX4_take 33 = .ok (.bipush 8, 2) := by decide +kernel
theorem dX4_take_35 : decode cX4_take 35 = .ok (.invokestatic 34, 3) := by decide +kernel
theorem dX4_take_38 : decode cX4_take 38 = .ok (.aload_n 0, 1) := by decide +kernel
theorem dX4_take_39 : decode cX4_take 39 = .ok (.aload_n 1, 1) := by decide +kernel
theorem dX4_take_40 : decode cX4_take 40 = .ok (.getfield 40, 3) := by decide +kernel
theorem dX4_take_43 : decode cX4_take 43 = .ok (.putfield 40, 3) := by decide +kernel
theorem dX4_take_46 : decode cX4_take 46 = .ok (.aload_n 1, 1) := by decide +kernel
theorem dX4_take_47 : decode cX4_take 47 = .ok (.getfield 18, 3) := by decide +kernel
theorem dX4_take_50 : decode cX4_take 50 = .ok (.iconst 0, 1) := by decide +kernel
theorem dX4_take_51 : decode cX4_take 51 = .ok (.aload_n 0, 1) := by decide +kernel
theorem dX4_take_52 : decode cX4_take 52 = .ok (.getfield 18, 3) := by decide +kernel
theorem dX4_take_55 : decode cX4_take 55 = .ok (.iconst 0, 1) := by decide +kernel
theorem dX4_take_56 : decode cX4_take 56 = .ok (.sipush 200, 3) := by decide +kernel
theorem dX4_take_59 : decode cX4_take 59 = .ok (.invokestatic 34, 3) := by decide +kernel
theorem dX4_take_62 : decode cX4_take 62 = .ok (.aload_n 1, 1) := by decide +kernel
theorem dX4_take_63 : decode cX4_take 63 = .ok (.getfield 21, 3) := by decide +kernel
theorem dX4_take_66 : decode cX4_take 66 = .ok (.iconst 0, 1) := by decide +kernel
theorem dX4_take_67 : decode cX4_take 67 = .ok (.aload_n 0, 1) := by decide +kernel
theorem dX4_take_68 : decode cX4_take 68 = .ok (.getfield 21, 3) := by decide +kernel
theorem dX4_take_71 : decode cX4_take 71 = .ok (.iconst 0, 1) := by decide +kernel
theorem dX4_take_72 : decode cX4_take 72 = .ok (.sipush 200, 3) := by decide +kernel
theorem dX4_take_75 : decode cX4_take 75 = .ok (.invokestatic 34, 3) := by decide +kernel
theorem dX4_take_78 : decode cX4_take 78 = .ok (.aload_n 1, 1) := by decide +kernel
theorem dX4_take_79 : decode cX4_take 79 = .ok (.getfield 24, 3) := by decide +kernel
theorem dX4_take_82 : decode cX4_take 82 = .ok (.iconst 0, 1) := by decide +kernel
theorem dX4_take_83 : decode cX4_take 83 = .ok (.aload_n 0, 1) := by decide +kernel
theorem dX4_take_84 : decode cX4_take 84 = .ok (.getfield 24, 3) := by decide +kernel
theorem dX4_take_87 : decode cX4_take 87 = .ok (.iconst 0, 1) := by decide +kernel
theorem dX4_take_88 : decode cX4_take 88 = .ok (.sipush 200, 3) := by decide +kernel
theorem dX4_take_91 : decode cX4_take 91 = .ok (.invokestatic 34, 3) := by decide +kernel
theorem dX4_take_94 : decode cX4_take 94 = .ok (.aload_n 1, 1) := by decide +kernel
theorem dX4_take_95 : decode cX4_take 95 = .ok (.getfield 27, 3) := by decide +kernel
theorem dX4_take_98 : decode cX4_take 98 = .ok (.iconst 0, 1) := by decide +kernel
theorem dX4_take_99 : decode cX4_take 99 = .ok (.aload_n 0, 1) := by decide +kernel
theorem dX4_take_100 : decode cX4_take 100 = .ok (.getfield 27, 3) := by decide +kernel
theorem dX4_take_103 : decode cX4_take 103 = .ok (.iconst 0, 1) := by decide +kernel
theorem dX4_take_104 : decode cX4_take 104 = .ok (.sipush 200, 3) := by decide +kernel
theorem dX4_take_107 : decode cX4_take 107 = .ok (.invokestatic 34, 3) := by decide +kernel
theorem dX4_take_110 : decode cX4_take 110 = .ok (.return_, 1) := by decide +kernel
theorem dX4_addState_0 : decode cX4_addState 0 = .ok (.aload_n 0, 1) := by decide +kernel
theorem dX4_addState_1 : decode cX4_addState 1 = .ok (.getfield 30, 3) := by decide +kernel
theorem dX4_addState_4 : decode cX4_addState 4 = .ok (.istore_n 3, 1) := by decide +kernel
theorem dX4_addState_5 : decode cX4_addState 5 = .ok (.aload_n 0, 1) := by decide +kernel
theorem dX4_addState_6 : decode cX4_addState 6 = .ok (.getfield 9, 3) := by decide +kernel
theorem dX4_addState_9 : decode cX4_addState 9 = .ok (.iload_n 3, 1) := by decide +kernel
theorem dX4_addState_10 : decode cX4_addState 10 = .ok (.iload_n 1, 1) := by decide +kernel
theorem dX4_addState_11 : decode cX4_addState 11 = .ok (.iastore, 1) := by decide +kernel
theorem dX4_addState_12 : decode cX4_addState 12 = .ok (.aload_n 0, 1) := by decide +kernel
theorem dX4_addState_13 : decode cX4_addState 13 = .ok (.getfield 15, 3) := by decide +kernel
theorem dX4_addState_16 : decode cX4_addState 16 = .ok (.iload_n 3, 1) := by decide +kernel
theorem dX4_addState_17 : decode cX4_addState 17 = .ok (.iload_n 2, 1) := by decide +kernel
theorem dX4_addState_18 : decode cX4_addState 18 = .ok (.iastore, 1) := by decide +kernel
theorem dX4_addState_19 : decode cX4_addState 19 = .ok (.aload_n 0, 1) := by decide +kernel
theorem dX4_addState_20 : decode cX4_addState 20 = .ok (.dup, 1) := by decide +kernel
theorem dX4_addState_21 : decode cX4_addState 21 = .ok (.getfield 30, 3) := by decide +kernel
theorem dX4_addState_24 : decode cX4_addState 24 = .ok (.iconst 1, 1) := by decide +kernel
theorem dX4_addState_25 : decode cX4_addState 25 = .ok (.iadd, 1) := by decide +kernel
theorem dX4_addState_26 : decode cX4_addState 26 = .ok (.putfield 30, 3) := by decide +kernel
theorem dX4_addState_29 : decode cX4_addState 29 = .ok (.iload_n 3, 1) := by decide +kernel
theorem dX4_addState_30 : decode cX4_addState 30 = .ok (.ireturn, 1) := by decide +kernel
theorem dX4_addReading_0 : decode cX4_addReading 0 = .ok (.aload_n 0, 1) := by decide +kernel
theorem dX4_addReading_1 : decode cX4_addReading 1 = .ok (.getfield 18, 3) := by decide +kernel
theorem dX4_addReading_4 : decode cX4_addReading 4 = .ok (.aload_n 0, 1) := by decide +kernel
theorem dX4_addReading_5 : decode cX4_addReading 5 = .ok (.getfield 40, 3) := by decide +kernel
theorem dX4_addReading_8 : decode cX4_addReading 8 = .ok (.iload_n 1, 1) := by decide +kernel
theorem dX4_addReading_9 : decode cX4_addReading 9 = .ok (.iastore, 1) := by decide +kernel
theorem dX4_addReading_10 : decode cX4_addReading 10 = .ok (.aload_n 0, 1) := by decide +kernel
theorem dX4_addReading_11 : decode cX4_addReading 11 = .ok (.getfield 21, 3) := by decide +kernel
theorem dX4_addReading_14 : decode cX4_addReading 14 = .ok (.aload_n 0, 1) := by decide +kernel
theorem dX4_addReading_15 : decode cX4_addReading 15 = .ok (.getfield 40, 3) := by decide +kernel
theorem dX4_addReading_18 : decode cX4_addReading 18 = .ok (.iload_n 2, 1) := by decide +kernel
theorem dX4_addReading_19 : decode cX4_addReading 19 = .ok (.iastore, 1) := by decide +kernel
theorem dX4_addReading_20 : decode cX4_addReading 20 = .ok (.aload_n 0, 1) := by decide +kernel
theorem dX4_addReading_21 : decode cX4_addReading 21 = .ok (.getfield 24, 3) := by decide +kernel
theorem dX4_addReading_24 : decode cX4_addReading 24 = .ok (.aload_n 0, 1) := by decide +kernel
theorem dX4_addReading_25 : decode cX4_addReading 25 = .ok (.getfield 40, 3) := by decide +kernel
theorem dX4_addReading_28 : decode cX4_addReading 28 = .ok (.iload_n 3, 1) := by decide +kernel
theorem dX4_addReading_29 : decode cX4_addReading 29 = .ok (.ifCond .eq 7, 3) := by decide +kernel
theorem dX4_addReading_32 : decode cX4_addReading 32 = .ok (.iconst 1, 1) := by decide +kernel
theorem dX4_addReading_33 : decode cX4_addReading 33 = .ok (.goto 4, 3) := by decide +kernel
theorem dX4_addReading_36 : decode cX4_addReading 36 = .ok (.iconst 0, 1) := by decide +kernel
theorem dX4_addReading_37 : decode cX4_addReading 37 = .ok (.iastore, 1) := by decide +kernel
theorem dX4_addReading_38 : decode cX4_addReading 38 = .ok (.aload_n 0, 1) := by decide +kernel
theorem dX4_addReading_39 : decode cX4_addReading 39 = .ok (.getfield 27, 3) := by decide +kernel
theorem dX4_addReading_42 : decode cX4_addReading 42 = .ok (.aload_n 0, 1) := by decide +kernel
theorem dX4_addReading_43 : decode cX4_addReading 43 = .ok (.getfield 40, 3) := by decide +kernel
theorem dX4_addReading_46 : decode cX4_addReading 46 = .ok (.iload 4, 2) := by decide +kernel
theorem dX4_addReading_48 : decode cX4_addReading 48 = .ok (.iastore, 1) := by decide +kernel
theorem dX4_addReading_49 : decode cX4_addReading 49 = .ok (.aload_n 0, 1) := by decide +kernel
theorem dX4_addReading_50 : decode cX4_addReading 50 = .ok (.dup, 1) := by decide +kernel
theorem dX4_addReading_51 : decode cX4_addReading 51 = .ok (.getfield 40, 3) := by decide +kernel
theorem dX4_addReading_54 : decode cX4_addReading 54 = .ok (.iconst 1, 1) := by decide +kernel
theorem dX4_addReading_55 : decode cX4_addReading 55 = .ok (.iadd, 1) := by decide +kernel
theorem dX4_addReading_56 : decode cX4_addReading 56 = .ok (.putfield 40, 3) := by decide +kernel
theorem dX4_addReading_59 : decode cX4_addReading 59 = .ok (.return_, 1) := by decide +kernel
theorem dX5_init_0 : decode cX5_init 0 = .ok (.aload_n 0, 1) := by decide +kernel
theorem dX5_init_1 : decode cX5_init 1 = .ok (.invokespecial 1, 3) := by decide +kernel
theorem dX5_init_4 : decode cX5_init 4 = .ok (.aload_n 0, 1) := by decide +kernel
theorem dX5_init_5 : decode cX5_init 5 = .ok (.bipush 30, 2) := by decide +kernel
theorem dX5_init_7 : decode cX5_init 7 = .ok (.newarray .int, 2) := by decide +kernel
theorem dX5_init_9 : decode cX5_init 9 = .ok (.putfield 9, 3) := by decide +kernel
theorem dX5_init_12 : decode cX5_init 12 = .ok (.aload_n 0, 1) := by decide +kernel
theorem dX5_init_13 : decode cX5_init 13 = .ok (.bipush 30, 2) := by decide +kernel
theorem dX5_init_15 : decode cX5_init 15 = .ok (.newarray .int, 2) := by decide +kernel
theorem dX5_init_17 : decode cX5_init 17 = .ok (.putfield 13, 3) := by decide +kernel
theorem dX5_init_20 : decode cX5_init 20 = .ok (.aload_n 0, 1) := by decide +kernel
theorem dX5_init_21 : decode cX5_init 21 = .ok (.bipush 30, 2) := by decide +kernel
theorem dX5_init_23 : decode cX5_init 23 = .ok (.newarray .int, 2) := by decide +kernel
theorem dX5_init_25 : decode cX5_init 25 = .ok (.putfield 16, 3) := by decide +kernel
theorem dX5_init_28 : decode cX5_init 28 = .ok (.return_, 1) := by decide +kernel
theorem dX5_take_0 : decode cX5_take 0 = .ok (.aload_n 0, 1) := by decide +kernel
theorem dX5_take_1 : decode cX5_take 1 = .ok (.aload_n 1, 1) := by decide +kernel
theorem dX5_take_2 : decode cX5_take 2 = .ok (.getfield 19, 3) := by decide +kernel
theorem dX5_take_5 : decode cX5_take 5 = .ok (.putfield 19, 3) := by decide +kernel
theorem dX5_take_8 : decode cX5_take 8 = .ok (.aload_n 0, 1) := by decide +kernel
theorem dX5_take_9 : decode cX5_take 9 = .ok (.aload_n 1, 1) := by decide +kernel
theorem dX5_take_10 : decode cX5_take 10 = .ok (.getfield 23, 3) := by decide +kernel
theorem dX5_take_13 : decode cX5_take 13 = .ok (.putfield 23, 3) := by decide +kernel
theorem dX5_take_16 : decode cX5_take 16 = .ok (.aload_n 1, 1) := by decide +kernel
theorem dX5_take_17 : decode cX5_take 17 = .ok (.getfield 9, 3) := by decide +kernel
theorem dX5_take_20 : decode cX5_take 20 = .ok (.iconst 0, 1) := by decide +kernel
theorem dX5_take_21 : decode cX5_take 21 = .ok (.aload_n 0, 1) := by decide +kernel
theorem dX5_take_22 : decode cX5_take 22 = .ok (.getfield 9, 3) := by decide +kernel
theorem dX5_take_25 : decode cX5_take 25 = .ok (.iconst 0, 1) := by decide +kernel
theorem dX5_take_26 : decode cX5_take 26 = .ok (.bipush 30, 2) := by decide +kernel
theorem dX5_take_28 : decode cX5_take 28 = .ok (.invokestatic 26, 3) := by decide +kernel
theorem dX5_take_31 : decode cX5_take 31 = .ok (.aload_n 1, 1) := by decide +kernel
theorem dX5_take_32 : decode cX5_take 32 = .ok (.getfield 13, 3) := by decide +kernel
theorem dX5_take_35 : decode cX5_take 35 = .ok (.iconst 0, 1) := by decide +kernel
theorem dX5_take_36 : decode cX5_take 36 = .ok (.aload_n 0, 1) := by decide +kernel
theorem dX5_take_37 : decode cX5_take 37 = .ok (.getfield 13, 3) := by decide +kernel
theorem dX5_take_40 : decode cX5_take 40 = .ok (.iconst 0, 1) := by decide +kernel
theorem dX5_take_41 : decode cX5_take 41 = .ok (.bipush 30, 2) := by decide +kernel
theorem dX5_take_43 : decode cX5_take 43 = .ok (.invokestatic 26, 3) := by decide +kernel
theorem dX5_take_46 : decode cX5_take 46 = .ok (.aload_n 1, 1) := by decide +kernel
theorem dX5_take_47 : decode cX5_take 47 = .ok (.getfield 16, 3) := by decide +kernel
theorem dX5_take_50 : decode cX5_take 50 = .ok (.iconst 0, 1) := by decide +kernel
theorem dX5_take_51 : decode cX5_take 51 = .ok (.aload_n 0, 1) := by decide +kernel
theorem dX5_take_52 : decode cX5_take 52 = .ok (.getfield 16, 3) := by decide +kernel
theorem dX5_take_55 : decode cX5_take 55 = .ok (.iconst 0, 1) := by decide +kernel
theorem dX5_take_56 : decode cX5_take 56 = .ok (.bipush 30, 2) := by decide +kernel
theorem dX5_take_58 : decode cX5_take 58 = .ok (.invokestatic 26, 3) := by decide +kernel
theorem dX5_take_61 : decode cX5_take 61 = .ok (.return_, 1) := by decide +kernel
theorem dX5_addForce_0 : decode cX5_addForce 0 = .ok (.aload_n 0, 1) := by decide +kernel
theorem dX5_addForce_1 : decode cX5_addForce 1 = .ok (.getfield 23, 3) := by decide +kernel
theorem dX5_addForce_4 : decode cX5_addForce 4 = .ok (.istore 4, 2) := by decide +kernel
theorem dX5_addForce_6 : decode cX5_addForce 6 = .ok (.aload_n 0, 1) := by decide +kernel
theorem dX5_addForce_7 : decode cX5_addForce 7 = .ok (.getfield 9, 3) := by decide +kernel
theorem dX5_addForce_10 : decode cX5_addForce 10 = .ok (.iload 4, 2) := by decide +kernel
theorem dX5_addForce_12 : decode cX5_addForce 12 = .ok (.iload_n 1, 1) := by decide +kernel
theorem dX5_addForce_13 : decode cX5_addForce 13 = .ok (.iastore, 1) := by decide +kernel
theorem dX5_addForce_14 : decode cX5_addForce 14 = .ok (.aload_n 0, 1) := by decide +kernel
theorem dX5_addForce_15 : decode cX5_addForce 15 = .ok (.getfield 13, 3) := by decide +kernel
theorem dX5_addForce_18 : decode cX5_addForce 18 = .ok (.iload 4, 2) := by decide +kernel
theorem dX5_addForce_20 : decode cX5_addForce 20 = .ok (.iload_n 2, 1) := by decide +kernel
theorem dX5_addForce_21 : decode cX5_addForce 21 = .ok (.iastore, 1) := by decide +kernel
theorem dX5_addForce_22 : decode cX5_addForce 22 = .ok (.aload_n 0, 1) := by decide +kernel
theorem dX5_addForce_23 : decode cX5_addForce 23 = .ok (.getfield 16, 3) := by decide +kernel
theorem dX5_addForce_26 : decode cX5_addForce 26 = .ok (.iload 4, 2) := by decide +kernel
theorem dX5_addForce_28 : decode cX5_addForce 28 = .ok (.iload_n 3, 1) := by decide +kernel
theorem dX5_addForce_29 : decode cX5_addForce 29 = .ok (.iastore, 1) := by decide +kernel
theorem dX5_addForce_30 : decode cX5_addForce 30 = .ok (.aload_n 0, 1) := by decide +kernel
theorem dX5_addForce_31 : decode cX5_addForce 31 = .ok (.dup, 1) := by decide +kernel
theorem dX5_addForce_32 : decode cX5_addForce 32 = .ok (.getfield 23, 3) := by decide +kernel
theorem dX5_addForce_35 : decode cX5_addForce 35 = .ok (.iconst 1, 1) := by decide +kernel
theorem dX5_addForce_36 : decode cX5_addForce 36 = .ok (.iadd, 1) := by decide +kernel
theorem dX5_addForce_37 : decode cX5_addForce 37 = .ok (.putfield 23, 3) := by decide +kernel
theorem dX5_addForce_40 : decode cX5_addForce 40 = .ok (.iload 4, 2) := by decide +kernel
theorem dX5_addForce_42 : decode cX5_addForce 42 = .ok (.ireturn, 1) := by decide +kernel
theorem dX6_init_0 : decode cX6_init 0 = .ok (.aload_n 0, 1) := by decide +kernel
theorem dX6_init_1 : decode cX6_init 1 = .ok (.invokespecial 3, 3) := by decide +kernel
theorem dX6_init_4 : decode cX6_init 4 = .ok (.aload_n 0, 1) := by decide +kernel
theorem dX6_init_5 : decode cX6_init 5 = .ok (.sipush 300, 3) := by decide +kernel
theorem dX6_init_8 : decode cX6_init 8 = .ok (.newarray .int, 2) := by decide +kernel
theorem dX6_init_10 : decode cX6_init 10 = .ok (.putfield 9, 3) := by decide +kernel
theorem dX6_init_13 : decode cX6_init 13 = .ok (.aload_n 0, 1) := by decide +kernel
theorem dX6_init_14 : decode cX6_init 14 = .ok (.iconst (-1), 1) := by decide +kernel
theorem dX6_init_15 : decode cX6_init 15 = .ok (.putfield 15, 3) := by decide +kernel
theorem dX6_init_18 : decode cX6_init 18 = .ok (.aload_n 0, 1) := by decide +kernel
theorem dX6_init_19 : decode cX6_init 19 = .ok (.iconst (-1), 1) := by decide +kernel
theorem dX6_init_20 : decode cX6_init 20 = .ok (.putfield 19, 3) := by decide +kernel
theorem dX6_init_23 : decode cX6_init 23 = .ok (.aload_n 0, 1) := by decide +kernel
theorem dX6_init_24 : decode cX6_init 24 = .ok (.sipush 301, 3) := by decide +kernel
theorem dX6_init_27 : decode cX6_init 27 = .ok (.newarray .int, 2) := by decide +kernel
theorem dX6_init_29 : decode cX6_init 29 = .ok (.putfield 22, 3) := by decide +kernel
theorem dX6_init_32 : decode cX6_init 32 = .ok (.aload_n 0, 1) := by decide +kernel
theorem dX6_init_33 : decode cX6_init 33 = .ok (.sipush 301, 3) := by decide +kernel
theorem dX6_init_36 : decode cX6_init 36 = .ok (.newarray .int, 2) := by decide +kernel
theorem dX6_init_38 : decode cX6_init 38 = .ok (.putfield 25, 3) := by decide +kernel
theorem dX6_init_41 : decode cX6_init 41 = .ok (.return_, 1) := by decide +kernel
theorem dX6_hasRoom_0 : decode cX6_hasRoom 0 = .ok (.aload_n 0, 1) := by decide +kernel
theorem dX6_hasRoom_1 : decode cX6_hasRoom 1 = .ok (.getfield 28, 3) := by decide +kernel
theorem dX6_hasRoom_4 : decode cX6_hasRoom 4 = .ok (.iload_n 1, 1) := by decide +kernel
theorem dX6_hasRoom_5 : decode cX6_hasRoom 5 = .ok (.iadd, 1) := by decide +kernel
theorem dX6_hasRoom_6 : decode cX6_hasRoom 6 = .ok (.sipush 300, 3) := by decide +kernel
theorem dX6_hasRoom_9 : decode cX6_hasRoom 9 = .ok (.if_icmp .gt 7, 3) := by decide +kernel
theorem dX6_hasRoom_12 : decode cX6_hasRoom 12 = .ok (.iconst 1, 1) := by decide +kernel
theorem dX6_hasRoom_13 : decode cX6_hasRoom 13 = .ok (.goto 4, 3) := by decide +kernel
theorem dX6_hasRoom_16 : decode cX6_hasRoom 16 = .ok (.iconst 0, 1) := by decide +kernel
theorem dX6_hasRoom_17 : decode cX6_hasRoom 17 = .ok (.ireturn, 1) := by decide +kernel
theorem dX6_addWord_0 : decode cX6_addWord 0 = .ok (.bipush 24, 2) := by decide +kernel
theorem dX6_addWord_2 : decode cX6_addWord 2 = .ok (.istore_n 2, 1) := by decide +kernel
theorem dX6_addWord_3 : decode cX6_addWord 3 = .ok (.iload_n 2, 1) := by decide +kernel
theorem dX6_addWord_4 : decode cX6_addWord 4 = .ok (.ifCond .lt 45, 3) := by decide +kernel
theorem dX6_addWord_7 : decode cX6_addWord 7 = .ok (.aload_n 0, 1) := by decide +kernel
theorem dX6_addWord_8 : decode cX6_addWord 8 = .ok (.getfield 28, 3) := by decide +kernel
theorem dX6_addWord_11 : decode cX6_addWord 11 = .ok (.sipush 300, 3) := by decide +kernel
theorem dX6_addWord_14 : decode cX6_addWord 14 = .ok (.if_icmp .ge 35, 3) := by decide +kernel
theorem dX6_addWord_17 : decode cX6_addWord 17 = .ok (.aload_n 0, 1) := by decide +kernel
theorem dX6_addWord_18 : decode cX6_addWord 18 = .ok (.getfield 9, 3) := by decide +kernel
theorem dX6_addWord_21 : decode cX6_addWord 21 = .ok (.aload_n 0, 1) := by decide +kernel
theorem dX6_addWord_22 : decode cX6_addWord 22 = .ok (.getfield 28, 3) := by decide +kernel
theorem dX6_addWord_25 : decode cX6_addWord 25 = .ok (.iload_n 1, 1) := by decide +kernel
theorem dX6_addWord_26 : decode cX6_addWord 26 = .ok (.iload_n 2, 1) := by decide +kernel
theorem dX6_addWord_27 : decode cX6_addWord 27 = .ok (.iushr, 1) := by decide +kernel
theorem dX6_addWord_28 : decode cX6_addWord 28 = .ok (.sipush 255, 3) := by decide +kernel
theorem dX6_addWord_31 : decode cX6_addWord 31 = .ok (.iand, 1) := by decide +kernel
theorem dX6_addWord_32 : decode cX6_addWord 32 = .ok (.iastore, 1) := by decide +kernel
theorem dX6_addWord_33 : decode cX6_addWord 33 = .ok (.aload_n 0, 1) := by decide +kernel
theorem dX6_addWord_34 : decode cX6_addWord 34 = .ok (.dup, 1) := by decide +kernel
theorem dX6_addWord_35 : decode cX6_addWord 35 = .ok (.getfield 28, 3) := by decide +kernel
theorem dX6_addWord_38 : decode cX6_addWord 38 = .ok (.iconst 1, 1) := by decide +kernel
theorem dX6_addWord_39 : decode cX6_addWord 39 = .ok (.iadd, 1) := by decide +kernel
theorem dX6_addWord_40 : decode cX6_addWord 40 = .ok (.putfield 28, 3) := by decide +kernel
theorem dX6_addWord_43 : decode cX6_addWord 43 = .ok (.iinc 2 (-8), 3) := by decide +kernel
theorem dX6_addWord_46 : decode cX6_addWord 46 = .ok (.goto (-43), 3) := by decide +kernel
theorem dX6_addWord_49 : decode cX6_addWord 49 = .ok (.return_, 1) := by decide +kernel
theorem dX6_readInto_0 : decode cX6_readInto 0 = .ok (.aload_n 0, 1) := by decide +kernel
theorem dX6_readInto_1 : decode cX6_readInto 1 = .ok (.invokevirtual 31, 3) := by decide +kernel
theorem dX6_readInto_4 : decode cX6_readInto 4 = .ok (.aload_n 0, 1) := by decide +kernel
theorem dX6_readInto_5 : decode cX6_readInto 5 = .ok (.iconst 0, 1) := by decide +kernel
theorem dX6_readInto_6 : decode cX6_readInto 6 = .ok (.putfield 28, 3) := by decide +kernel
theorem dX6_readInto_9 : decode cX6_readInto 9 = .ok (.aload_n 0, 1) := by decide +kernel
theorem dX6_readInto_10 : decode cX6_readInto 10 = .ok (.iconst 0, 1) := by decide +kernel
theorem dX6_readInto_11 : decode cX6_readInto 11 = .ok (.putfield 15, 3) := by decide +kernel
theorem dX6_readInto_14 : decode cX6_readInto 14 = .ok (.aload_n 0, 1) := by decide +kernel
theorem dX6_readInto_15 : decode cX6_readInto 15 = .ok (.iconst (-1), 1) := by decide +kernel
theorem dX6_readInto_16 : decode cX6_readInto 16 = .ok (.putfield 19, 3) := by decide +kernel
theorem dX6_readInto_19 : decode cX6_readInto 19 = .ok (.aload_n 0, 1) := by decide +kernel
theorem dX6_readInto_20 : decode cX6_readInto 20 = .ok (.iconst 0, 1) := by decide +kernel
theorem dX6_readInto_21 : decode cX6_readInto 21 = .ok (.putfield 34, 3) := by decide +kernel
theorem dX6_readInto_24 : decode cX6_readInto 24 = .ok (.aload_n 0, 1) := by decide +kernel
theorem dX6_readInto_25 : decode cX6_readInto 25 = .ok (.aload_n 1, 1) := by decide +kernel
theorem dX6_readInto_26 : decode cX6_readInto 26 = .ok (.putfield 37, 3) := by decide +kernel
theorem dX6_readInto_29 : decode cX6_readInto 29 = .ok (.aload_n 0, 1) := by decide +kernel
theorem dX6_readInto_30 : decode cX6_readInto 30 = .ok (.getfield 37, 3) := by decide +kernel
theorem dX6_readInto_33 : decode cX6_readInto 33 = .ok (.invokevirtual 41, 3) := by decide +kernel
theorem dX6_readInto_36 : decode cX6_readInto 36 = .ok (.aload_n 0, 1) := by decide +kernel
theorem dX6_readInto_37 : decode cX6_readInto 37 = .ok (.iconst 0, 1) := by decide +kernel
theorem dX6_readInto_38 : decode cX6_readInto 38 = .ok (.putfield 46, 3) := by decide +kernel
theorem dX6_readInto_41 : decode cX6_readInto 41 = .ok (.aload_n 0, 1) := by decide +kernel
theorem dX6_readInto_42 : decode cX6_readInto 42 = .ok (.aload_n 0, 1) := by decide +kernel
theorem dX6_readInto_43 : decode cX6_readInto 43 = .ok (.getfield 22, 3) := by decide +kernel
theorem dX6_readInto_46 : decode cX6_readInto 46 = .ok (.iconst 0, 1) := by decide +kernel
theorem dX6_readInto_47 : decode cX6_readInto 47 = .ok (.iaload, 1) := by decide +kernel
theorem dX6_readInto_48 : decode cX6_readInto 48 = .ok (.putfield 49, 3) := by decide +kernel
theorem dX6_readInto_51 : decode cX6_readInto 51 = .ok (.iconst 0, 1) := by decide +kernel
theorem dX6_readInto_52 : decode cX6_readInto 52 = .ok (.istore_n 2, 1) := by decide +kernel
theorem dX6_readInto_53 : decode cX6_readInto 53 = .ok (.iload_n 2, 1) := by decide +kernel
theorem dX6_readInto_54 : decode cX6_readInto 54 = .ok (.sipush 300, 3) := by decide +kernel
theorem dX6_readInto_57 : decode cX6_readInto 57 = .ok (.if_icmp .ge 20, 3) := by decide +kernel
theorem dX6_readInto_60 : decode cX6_readInto 60 = .ok (.aload_n 0, 1) := by decide +kernel
theorem dX6_readInto_61 : decode cX6_readInto 61 = .ok (.getfield 49, 3) := by decide +kernel
theorem dX6_readInto_64 : decode cX6_readInto 64 = .ok (.ifCond .eq 13, 3) := by decide +kernel
theorem dX6_readInto_67 : decode cX6_readInto 67 = .ok (.aload_n 0, 1) := by decide +kernel
theorem dX6_readInto_68 : decode cX6_readInto 68 = .ok (.invokevirtual 52, 3) := by decide +kernel
theorem dX6_readInto_71 : decode cX6_readInto 71 = .ok (.iinc 2 1, 3) := by decide +kernel
theorem dX6_readInto_74 : decode cX6_readInto 74 = .ok (.goto (-21), 3) := by decide +kernel
theorem dX6_readInto_77 : decode cX6_readInto 77 = .ok (.aload_n 0, 1) := by decide +kernel
theorem dX6_readInto_78 : decode cX6_readInto 78 = .ok (.getfield 15, 3) := by decide +kernel
theorem dX6_readInto_81 : decode cX6_readInto 81 = .ok (.ifCond .ne 7, 3) := by decide +kernel
theorem dX6_readInto_84 : decode cX6_readInto 84 = .ok (.iconst 1, 1) := by decide +kernel
theorem dX6_readInto_85 : decode cX6_readInto 85 = .ok (.goto 4, 3) := by decide +kernel
theorem dX6_readInto_88 : decode cX6_readInto 88 = .ok (.iconst 0, 1) := by decide +kernel
theorem dX6_readInto_89 : decode cX6_readInto 89 = .ok (.ireturn, 1) := by decide +kernel
theorem dX6_split_0 : decode cX6_split 0 = .ok (.aload_n 0, 1) := by decide +kernel
theorem dX6_split_1 : decode cX6_split 1 = .ok (.iconst 0, 1) := by decide +kernel
theorem dX6_split_2 : decode cX6_split 2 = .ok (.putfield 55, 3) := by decide +kernel
theorem dX6_split_5 : decode cX6_split 5 = .ok (.iconst 0, 1) := by decide +kernel
theorem dX6_split_6 : decode cX6_split 6 = .ok (.istore_n 1, 1) := by decide +kernel
theorem dX6_split_7 : decode cX6_split 7 = .ok (.iconst 0, 1) := by decide +kernel
theorem dX6_split_8 : decode cX6_split 8 = .ok (.istore_n 2, 1) := by decide +kernel
theorem dX6_split_9 : decode cX6_split 9 = .ok (.iload_n 2, 1) := by decide +kernel
theorem dX6_split_10 : decode cX6_split 10 = .ok (.sipush 300, 3) := by decide +kernel
theorem dX6_split_13 : decode cX6_split 13 = .ok (.if_icmp .ge 88, 3) := by decide +kernel
theorem dX6_split_16 : decode cX6_split 16 = .ok (.iload_n 1, 1) := by decide +kernel
theorem dX6_split_17 : decode cX6_split 17 = .ok (.aload_n 0, 1) := by decide +kernel
theorem dX6_split_18 : decode cX6_split 18 = .ok (.getfield 28, 3) := by decide +kernel
theorem dX6_split_21 : decode cX6_split 21 = .ok (.if_icmp .ge 80, 3) := by decide +kernel
theorem dX6_split_24 : decode cX6_split 24 = .ok (.aload_n 0, 1) := by decide +kernel
theorem dX6_split_25 : decode cX6_split 25 = .ok (.getfield 9, 3) := by decide +kernel
theorem dX6_split_28 : decode cX6_split 28 = .ok (.iload_n 1, 1) := by decide +kernel
theorem dX6_split_29 : decode cX6_split 29 = .ok (.iaload, 1) := by decide +kernel
theorem dX6_split_30 : decode cX6_split 30 = .ok (.bipush 32, 2) := by decide +kernel
theorem dX6_split_32 : decode cX6_split 32 = .ok (.if_icmp .eq 14, 3) := by decide +kernel
theorem dX6_split_35 : decode cX6_split 35 = .ok (.aload_n 0, 1) := by decide +kernel
theorem dX6_split_36 : decode cX6_split 36 = .ok (.getfield 9, 3) := by decide +kernel
theorem dX6_split_39 : decode cX6_split 39 = .ok (.iload_n 1, 1) := by decide +kernel
theorem dX6_split_40 : decode cX6_split 40 = .ok (.iaload, 1) := by decide +kernel
theorem dX6_split_41 : decode cX6_split 41 = .ok (.bipush 10, 2) := by decide +kernel
theorem dX6_split_43 : decode cX6_split 43 = .ok (.if_icmp .ne 9, 3) := by decide +kernel
theorem dX6_split_46 : decode cX6_split 46 = .ok (.iinc 1 1, 3) := by decide +kernel
theorem dX6_split_49 : decode cX6_split 49 = .ok (.goto 46, 3) := by decide +kernel
theorem dX6_split_52 : decode cX6_split 52 = .ok (.aload_n 0, 1) := by decide +kernel
theorem dX6_split_53 : decode cX6_split 53 = .ok (.iload_n 1, 1) := by decide +kernel
theorem dX6_split_54 : decode cX6_split 54 = .ok (.invokevirtual 58, 3) := by decide +kernel
theorem dX6_split_57 : decode cX6_split 57 = .ok (.istore_n 3, 1) := by decide +kernel
theorem dX6_split_58 : decode cX6_split 58 = .ok (.aload_n 0, 1) := by decide +kernel
theorem dX6_split_59 : decode cX6_split 59 = .ok (.getfield 22, 3) := by decide +kernel
theorem dX6_split_62 : decode cX6_split 62 = .ok (.aload_n 0, 1) := by decide +kernel
theorem dX6_split_63 : decode cX6_split 63 = .ok (.getfield 55, 3) := by decide +kernel
theorem dX6_split_66 : decode cX6_split 66 = .ok (.aload_n 0, 1) := by decide +kernel
theorem dX6_split_67 : decode cX6_split 67 = .ok (.iload_n 1, 1) := by decide +kernel
theorem dX6_split_68 : decode cX6_split 68 = .ok (.iload_n 3, 1) := by decide +kernel
theorem dX6_split_69 : decode cX6_split 69 = .ok (.invokevirtual 62, 3) := by decide +kernel
theorem dX6_split_72 : decode cX6_split 72 = .ok (.iastore, 1) := by decide +kernel
theorem dX6_split_73 : decode cX6_split 73 = .ok (.aload_n 0, 1) := by decide +kernel
theorem dX6_split_74 : decode cX6_split 74 = .ok (.getfield 25, 3) := by decide +kernel
theorem dX6_split_77 : decode cX6_split 77 = .ok (.aload_n 0, 1) := by decide +kernel
theorem dX6_split_78 : decode cX6_split 78 = .ok (.getfield 55, 3) := by decide +kernel
theorem dX6_split_81 : decode cX6_split 81 = .ok (.iload_n 1, 1) := by decide +kernel
theorem dX6_split_82 : decode cX6_split 82 = .ok (.iastore, 1) := by decide +kernel
theorem dX6_split_83 : decode cX6_split 83 = .ok (.aload_n 0, 1) := by decide +kernel
theorem dX6_split_84 : decode cX6_split 84 = .ok (.dup, 1) := by decide +kernel
theorem dX6_split_85 : decode cX6_split 85 = .ok (.getfield 55, 3) := by decide +kernel
theorem dX6_split_88 : decode cX6_split 88 = .ok (.iconst 1, 1) := by decide +kernel
theorem dX6_split_89 : decode cX6_split 89 = .ok (.iadd, 1) := by decide +kernel
theorem dX6_split_90 : decode cX6_split 90 = .ok (.putfield 55, 3) := by decide +kernel
theorem dX6_split_93 : decode cX6_split 93 = .ok (.iload_n 3, 1) := by decide +kernel
theorem dX6_split_94 : decode cX6_split 94 = .ok (.istore_n 1, 1) := by decide +kernel
theorem dX6_split_95 : decode cX6_split 95 = .ok (.iinc 2 1, 3) := by decide +kernel
theorem dX6_split_98 : decode cX6_split 98 = .ok (.goto (-89), 3) := by decide +kernel
theorem dX6_split_101 : decode cX6_split 101 = .ok (.aload_n 0, 1) := by decide +kernel
theorem dX6_split_102 : decode cX6_split 102 = .ok (.getfield 22, 3) := by decide +kernel
theorem dX6_split_105 : decode cX6_split 105 = .ok (.aload_n 0, 1) := by decide +kernel
theorem dX6_split_106 : decode cX6_split 106 = .ok (.getfield 55, 3) := by decide +kernel
theorem dX6_split_109 : decode cX6_split 109 = .ok (.iconst 0, 1) := by decide +kernel
theorem dX6_split_110 : decode cX6_split 110 = .ok (.iastore, 1) := by decide +kernel
theorem dX6_split_111 : decode cX6_split 111 = .ok (.aload_n 0, 1) := by decide +kernel
theorem dX6_split_112 : decode cX6_split 112 = .ok (.getfield 25, 3) := by decide +kernel
theorem dX6_split_115 : decode cX6_split 115 = .ok (.aload_n 0, 1) := by decide +kernel
theorem dX6_split_116 : decode cX6_split 116 = .ok (.getfield 55, 3) := by decide +kernel
theorem dX6_split_119 : decode cX6_split 119 = .ok (.aload_n 0, 1) := by decide +kernel
theorem dX6_split_120 : decode cX6_split 120 = .ok (.getfield 28, 3) := by decide +kernel
theorem dX6_split_123 : decode cX6_split 123 = .ok (.iastore, 1) := by decide +kernel
theorem dX6_split_124 : decode cX6_split 124 = .ok (.return_, 1) := by decide +kernel
theorem dX6_endOfToken_0 : decode cX6_endOfToken 0 = .ok (.aload_n 0, 1) := by decide +kernel
theorem dX6_endOfToken_1 : decode cX6_endOfToken 1 = .ok (.getfield 9, 3) := by decide +kernel
theorem dX6_endOfToken_4 : decode cX6_endOfToken 4 = .ok (.iload_n 1, 1) := by decide +kernel
theorem dX6_endOfToken_5 : decode cX6_endOfToken 5 = .ok (.iaload, 1) := by decide +kernel
theorem dX6_endOfToken_6 : decode cX6_endOfToken 6 = .ok (.invokestatic 66, 3) := by decide +kernel
theorem dX6_endOfToken_9 : decode cX6_endOfToken 9 = .ok (.istore_n 2, 1) := by decide +kernel
theorem dX6_endOfToken_10 : decode cX6_endOfToken 10 = .ok (.iload_n 1, 1) := by decide +kernel
theorem dX6_endOfToken_11 : decode cX6_endOfToken 11 = .ok (.iconst 1, 1) := by decide +kernel
theorem dX6_endOfToken_12 : decode cX6_endOfToken 12 = .ok (.iadd, 1) := by decide +kernel
theorem dX6_endOfToken_13 : decode cX6_endOfToken 13 = .ok (.istore_n 3, 1) := by decide +kernel
theorem dX6_endOfToken_14 : decode cX6_endOfToken 14 = .ok (.iload_n 2, 1) := by decide +kernel
theorem dX6_endOfToken_15 : decode cX6_endOfToken 15 = .ok (.bipush 60, 2) := by decide +kernel
theorem dX6_endOfToken_17 : decode cX6_endOfToken 17 = .ok (.if_icmp .ne 30, 3) := by decide +kernel
theorem dX6_endOfToken_20 : decode cX6_endOfToken 20 = .ok (.iload_n 3, 1) := by decide +kernel
theorem dX6_endOfToken_21 : decode cX6_endOfToken 21 = .ok (.aload_n 0, 1) := by decide +kernel
theorem dX6_endOfToken_22 : decode cX6_endOfToken 22 = .ok (.getfield 28, 3) := by decide +kernel
theorem dX6_endOfToken_25 : decode cX6_endOfToken 25 = .ok (.if_icmp .ge 20, 3) := by decide +kernel
theorem dX6_endOfToken_28 : decode cX6_endOfToken 28 = .ok (.aload_n 0, 1) := by decide +kernel
theorem dX6_endOfToken_29 : decode cX6_endOfToken 29 = .ok (.getfield 9, 3) := by decide +kernel
theorem dX6_endOfToken_32 : decode cX6_endOfToken 32 = .ok (.iload_n 3, 1) := by decide +kernel
theorem dX6_endOfToken_33 : decode cX6_endOfToken 33 = .ok (.iaload, 1) := by decide +kernel
theorem dX6_endOfToken_34 : decode cX6_endOfToken 34 = .ok (.bipush 61, 2) := by decide +kernel
theorem dX6_endOfToken_36 : decode cX6_endOfToken 36 = .ok (.if_icmp .ne 9, 3) := by decide +kernel
theorem dX6_endOfToken_39 : decode cX6_endOfToken 39 = .ok (.iload_n 3, 1) := by decide +kernel
theorem dX6_endOfToken_40 : decode cX6_endOfToken 40 = .ok (.iconst 1, 1) := by decide +kernel
theorem dX6_endOfToken_41 : decode cX6_endOfToken 41 = .ok (.iadd, 1) := by decide +kernel
theorem dX6_endOfToken_42 : decode cX6_endOfToken 42 = .ok (.goto 4, 3) := by decide +kernel
theorem dX6_endOfToken_45 : decode cX6_endOfToken 45 = .ok (.iload_n 3, 1) := by decide +kernel
theorem dX6_endOfToken_46 : decode cX6_endOfToken 46 = .ok (.ireturn, 1) := by decide +kernel
theorem dX6_endOfToken_47 : decode cX6_endOfToken 47 = .ok (.iload_n 2, 1) := by decide +kernel
theorem dX6_endOfToken_48 : decode cX6_endOfToken 48 = .ok (.bipush 97, 2) := by decide +kernel
theorem dX6_endOfToken_50 : decode cX6_endOfToken 50 = .ok (.if_icmp .eq 9, 3) := by decide +kernel
theorem dX6_endOfToken_53 : decode cX6_endOfToken 53 = .ok (.iload_n 2, 1) := by decide +kernel
theorem dX6_endOfToken_54 : decode cX6_endOfToken 54 = .ok (.bipush 48, 2) := by decide +kernel
theorem dX6_endOfToken_56 : decode cX6_endOfToken 56 = .ok (.if_icmp .ne 30, 3) := by decide +kernel
theorem dX6_endOfToken_59 : decode cX6_endOfToken 59 = .ok (.iload_n 3, 1) := by decide +kernel
theorem dX6_endOfToken_60 : decode cX6_endOfToken 60 = .ok (.aload_n 0, 1) := by decide +kernel
theorem dX6_endOfToken_61 : decode cX6_endOfToken 61 = .ok (.getfield 28, 3) := by decide +kernel
theorem dX6_endOfToken_64 : decode cX6_endOfToken 64 = .ok (.if_icmp .ge 22, 3) := by decide +kernel
theorem dX6_endOfToken_67 : decode cX6_endOfToken 67 = .ok (.aload_n 0, 1) := by decide +kernel
theorem dX6_endOfToken_68 : decode cX6_endOfToken 68 = .ok (.getfield 9, 3) := by decide +kernel
theorem dX6_endOfToken_71 : decode cX6_endOfToken 71 = .ok (.iload_n 3, 1) := by decide +kernel
theorem dX6_endOfToken_72 : decode cX6_endOfToken 72 = .ok (.iaload, 1) := by decide +kernel
theorem dX6_endOfToken_73 : decode cX6_endOfToken 73 = .ok (.invokestatic 66, 3) := by decide +kernel
theorem dX6_endOfToken_76 : decode cX6_endOfToken 76 = .ok (.iload_n 2, 1) := by decide +kernel
theorem dX6_endOfToken_77 : decode cX6_endOfToken 77 = .ok (.if_icmp .ne 9, 3) := by decide +kernel
theorem dX6_endOfToken_80 : decode cX6_endOfToken 80 = .ok (.iinc 3 1, 3) := by decide +kernel
theorem dX6_endOfToken_83 : decode cX6_endOfToken 83 = .ok (.goto (-24), 3) := by decide +kernel
theorem dX6_endOfToken_86 : decode cX6_endOfToken 86 = .ok (.iload_n 3, 1) := by decide +kernel
theorem dX6_endOfToken_87 : decode cX6_endOfToken 87 = .ok (.ireturn, 1) := by decide +kernel
theorem dX6_tokenOf_0 : decode cX6_tokenOf 0 = .ok (.aload_n 0, 1) := by decide +kernel
theorem dX6_tokenOf_1 : decode cX6_tokenOf 1 = .ok (.getfield 9, 3) := by decide +kernel
theorem dX6_tokenOf_4 : decode cX6_tokenOf 4 = .ok (.iload_n 1, 1) := by decide +kernel
theorem dX6_tokenOf_5 : decode cX6_tokenOf 5 = .ok (.iaload, 1) := by decide +kernel
theorem dX6_tokenOf_6 : decode cX6_tokenOf 6 = .ok (.invokestatic 66, 3) := by decide +kernel
theorem dX6_tokenOf_9 : decode cX6_tokenOf 9 = .ok (.lookupswitch 99 #[(48, 50), (59, 92), (60, 61), (97, 43)], 43) := by decide +kernel
theorem dX6_tokenOf_52 : decode cX6_tokenOf 52 = .ok (.aload_n 0, 1) := by decide +kernel
theorem dX6_tokenOf_53 : decode cX6_tokenOf 53 = .ok (.iload_n 1, 1) := by decide +kernel
theorem dX6_tokenOf_54 : decode cX6_tokenOf 54 = .ok (.iload_n 2, 1) := by decide +kernel
theorem dX6_tokenOf_55 : decode cX6_tokenOf 55 = .ok (.invokevirtual 69, 3) := by decide +kernel
theorem dX6_tokenOf_58 : decode cX6_tokenOf 58 = .ok (.ireturn, 1) := by decide +kernel
theorem dX6_tokenOf_59 : decode cX6_tokenOf 59 = .ok (.sipush 1000, 3) := by decide +kernel
theorem dX6_tokenOf_62 : decode cX6_tokenOf 62 = .ok (.aload_n 0, 1) := by decide +kernel
theorem dX6_tokenOf_63 : decode cX6_tokenOf 63 = .ok (.iload_n 1, 1) := by decide +kernel
theorem dX6_tokenOf_64 : decode cX6_tokenOf 64 = .ok (.iload_n 2, 1) := by decide +kernel
theorem dX6_tokenOf_65 : decode cX6_tokenOf 65 = .ok (.invokevirtual 72, 3) := by decide +kernel
theorem dX6_tokenOf_68 : decode cX6_tokenOf 68 = .ok (.iadd, 1) := by decide +kernel
theorem dX6_tokenOf_69 : decode cX6_tokenOf 69 = .ok (.ireturn, 1) := by decide +kernel
theorem dX6_tokenOf_70 : decode cX6_tokenOf 70 = .ok (.iload_n 2, 1) := by decide +kernel
theorem dX6_tokenOf_71 : decode cX6_tokenOf 71 = .ok (.iload_n 1, 1) := by decide +kernel
theorem dX6_tokenOf_72 : decode cX6_tokenOf 72 = .ok (.isub, 1) := by decide +kernel
theorem dX6_tokenOf_73 : decode cX6_tokenOf 73 = .ok (.iconst 1, 1) := by decide +kernel
theorem dX6_tokenOf_74 : decode cX6_tokenOf 74 = .ok (.if_icmp .ne 10, 3) := by decide +kernel
theorem dX6_tokenOf_77 : decode cX6_tokenOf 77 = .ok (.aload_n 0, 1) := by decide +kernel
theorem dX6_tokenOf_78 : decode cX6_tokenOf 78 = .ok (.getfield 9, 3) := by decide +kernel
theorem dX6_tokenOf_81 : decode cX6_tokenOf 81 = .ok (.iload_n 1, 1) := by decide +kernel
theorem dX6_tokenOf_82 : decode cX6_tokenOf 82 = .ok (.iaload, 1) := by decide +kernel
theorem dX6_tokenOf_83 : decode cX6_tokenOf 83 = .ok (.ireturn, 1) := by decide +kernel
theorem dX6_tokenOf_84 : decode cX6_tokenOf 84 = .ok (.aload_n 0, 1) := by decide +kernel
theorem dX6_tokenOf_85 : decode cX6_tokenOf 85 = .ok (.getfield 9, 3) := by decide +kernel
theorem dX6_tokenOf_88 : decode cX6_tokenOf 88 = .ok (.iload_n 1, 1) := by decide +kernel
theorem dX6_tokenOf_89 : decode cX6_tokenOf 89 = .ok (.iaload, 1) := by decide +kernel
theorem dX6_tokenOf_90 : decode cX6_tokenOf 90 = .ok (.bipush 60, 2) := by decide +kernel
theorem dX6_tokenOf_92 : decode cX6_tokenOf 92 = .ok (.if_icmp .ne 7, 3) := by decide +kernel
theorem dX6_tokenOf_95 : decode cX6_tokenOf 95 = .ok (.iconst 2, 1) := by decide +kernel
theorem dX6_tokenOf_96 : decode cX6_tokenOf 96 = .ok (.goto 4, 3) := by decide +kernel
theorem dX6_tokenOf_99 : decode cX6_tokenOf 99 = .ok (.iconst 3, 1) := by decide +kernel
theorem dX6_tokenOf_100 : decode cX6_tokenOf 100 = .ok (.ireturn, 1) := by decide +kernel
theorem dX6_tokenOf_101 : decode cX6_tokenOf 101 = .ok (.aload_n 0, 1) := by decide +kernel
theorem dX6_tokenOf_102 : decode cX6_tokenOf 102 = .ok (.getfield 9, 3) := by decide +kernel
theorem dX6_tokenOf_105 : decode cX6_tokenOf 105 = .ok (.iload_n 1, 1) := by decide +kernel
theorem dX6_tokenOf_106 : decode cX6_tokenOf 106 = .ok (.iaload, 1) := by decide +kernel
theorem dX6_tokenOf_107 : decode cX6_tokenOf 107 = .ok (.ireturn, 1) := by decide +kernel
theorem dX6_tokenOf_108 : decode cX6_tokenOf 108 = .ok (.iconst 1, 1) := by decide +kernel
theorem dX6_tokenOf_109 : decode cX6_tokenOf 109 = .ok (.ireturn, 1) := by decide +kernel
theorem dX6_familyOf_0 : decode cX6_familyOf 0 = .ok (.iload_n 0, 1) := by decide +kernel
theorem dX6_familyOf_1 : decode cX6_familyOf 1 = .ok (.bipush 97, 2) := by decide +kernel
theorem dX6_familyOf_3 : decode cX6_familyOf 3 = .ok (.if_icmp .lt 9, 3) := by decide +kernel
theorem dX6_familyOf_6 : decode cX6_familyOf 6 = .ok (.iload_n 0, 1) := by decide +kernel
theorem dX6_familyOf_7 : decode cX6_familyOf 7 = .ok (.bipush 122, 2) := by decide +kernel
theorem dX6_familyOf_9 : decode cX6_familyOf 9 = .ok (.if_icmp .le 15, 3) := by decide +kernel
theorem dX6_familyOf_12 : decode cX6_familyOf 12 = .ok (.iload_n 0, 1) := by decide +kernel
theorem dX6_familyOf_13 : decode cX6_familyOf 13 = .ok (.bipush 65, 2) := by decide +kernel
theorem dX6_familyOf_15 : decode cX6_familyOf 15 = .ok (.if_icmp .lt 12, 3) := by decide +kernel
theorem dX6_familyOf_18 : decode cX6_familyOf 18 = .ok (.iload_n 0, 1) := by decide +kernel
theorem dX6_familyOf_19 : decode cX6_familyOf 19 = .ok (.bipush 90, 2) := by decide +kernel
theorem dX6_familyOf_21 : decode cX6_familyOf 21 = .ok (.if_icmp .gt 6, 3) := by decide +kernel
theorem dX6_familyOf_24 : decode cX6_familyOf 24 = .ok (.bipush 97, 2) := by decide +kernel
theorem dX6_familyOf_26 : decode cX6_familyOf 26 = .ok (.ireturn, 1) := by decide +kernel
theorem dX6_familyOf_27 : decode cX6_familyOf 27 = .ok (.iload_n 0, 1) := by decide +kernel
theorem dX6_familyOf_28 : decode cX6_familyOf 28 = .ok (.bipush 48, 2) := by decide +kernel
theorem dX6_familyOf_30 : decode cX6_familyOf 30 = .ok (.if_icmp .lt 12, 3) := by decide +kernel
theorem dX6_familyOf_33 : decode cX6_familyOf 33 = .ok (.iload_n 0, 1) := by decide +kernel
theorem dX6_familyOf_34 : decode cX6_familyOf 34 = .ok (.bipush 57, 2) := by decide +kernel
theorem dX6_familyOf_36 : decode cX6_familyOf 36 = .ok (.if_icmp .gt 6, 3) := by decide +kernel
theorem dX6_familyOf_39 : decode cX6_familyOf 39 = .ok (.bipush 48, 2) := by decide +kernel
theorem dX6_familyOf_41 : decode cX6_familyOf 41 = .ok (.ireturn, 1) := by decide +kernel
theorem dX6_familyOf_42 : decode cX6_familyOf 42 = .ok (.iload_n 0, 1) := by decide +kernel
theorem dX6_familyOf_43 : decode cX6_familyOf 43 = .ok (.tableswitch 131 35 62 #[128, 131, 131, 131, 131, 128, 128, 128, 128, 131, 128, 131, 128, 131, 131, 131, 131, 131, 131, 131, 131, 131, 131, 131, 128, 125, 128, 125], 125) := by decide +kernel
theorem dX6_familyOf_168 : decode cX6_familyOf 168 = .ok (.bipush 60, 2) := by decide +kernel
theorem dX6_familyOf_170 : decode cX6_familyOf 170 = .ok (.ireturn, 1) := by decide +kernel
theorem dX6_familyOf_171 : decode cX6_familyOf 171 = .ok (.bipush 59, 2) := by decide +kernel
theorem dX6_familyOf_173 : decode cX6_familyOf 173 = .ok (.ireturn, 1) := by decide +kernel
theorem dX6_familyOf_174 : decode cX6_familyOf 174 = .ok (.iconst 1, 1) := by decide +kernel
theorem dX6_familyOf_175 : decode cX6_familyOf 175 = .ok (.ireturn, 1) := by decide +kernel
theorem dX6_numberOf_0 : decode cX6_numberOf 0 = .ok (.iconst 0, 1) := by decide +kernel
theorem dX6_numberOf_1 : decode cX6_numberOf 1 = .ok (.istore_n 3, 1) := by decide +kernel
theorem dX6_numberOf_2 : decode cX6_numberOf 2 = .ok (.iload_n 1, 1) := by decide +kernel
theorem dX6_numberOf_3 : decode cX6_numberOf 3 = .ok (.istore 4, 2) := by decide +kernel
theorem dX6_numberOf_5 : decode cX6_numberOf 5 = .ok (.iload 4, 2) := by decide +kernel
theorem dX6_numberOf_7 : decode cX6_numberOf 7 = .ok (.iload_n 2, 1) := by decide +kernel
theorem dX6_numberOf_8 : decode cX6_numberOf 8 = .ok (.if_icmp .ge 31, 3) := by decide +kernel
theorem dX6_numberOf_11 : decode cX6_numberOf 11 = .ok (.sipush 10000, 3) := by decide +kernel
theorem dX6_numberOf_14 : decode cX6_numberOf 14 = .ok (.iload_n 3, 1) := by decide +kernel
theorem dX6_numberOf_15 : decode cX6_numberOf 15 = .ok (.bipush 10, 2) := by decide +kernel
theorem dX6_numberOf_17 : decode cX6_numberOf 17 = .ok (.imul, 1) := by decide +kernel
theorem dX6_numberOf_18 : decode cX6_numberOf 18 = .ok (.aload_n 0, 1) := by decide +kernel
theorem dX6_numberOf_19 : decode cX6_numberOf 19 = .ok (.getfield 9, 3) := by decide +kernel
theorem dX6_numberOf_22 : decode cX6_numberOf 22 = .ok (.iload 4, 2) := by decide +kernel
theorem dX6_numberOf_24 : decode cX6_numberOf 24 = .ok (.iaload, 1) := by decide +kernel
theorem dX6_numberOf_25 : decode cX6_numberOf 25 = .ok (.iadd, 1) := by decide +kernel
theorem dX6_numberOf_26 : decode cX6_numberOf 26 = .ok (.bipush 48, 2) := by decide +kernel
theorem dX6_numberOf_28 : decode cX6_numberOf 28 = .ok (.isub, 1) := by decide +kernel
theorem dX6_numberOf_29 : decode cX6_numberOf 29 = .ok (.invokestatic 75, 3) := by decide +kernel
theorem dX6_numberOf_32 : decode cX6_numberOf 32 = .ok (.istore_n 3, 1) := by decide +kernel
theorem dX6_numberOf_33 : decode cX6_numberOf 33 = .ok (.iinc 4 1, 3) := by decide +kernel
theorem dX6_numberOf_36 : decode cX6_numberOf 36 = .ok (.goto (-31), 3) := by decide +kernel
theorem dX6_numberOf_39 : decode cX6_numberOf 39 = .ok (.iload_n 3, 1) := by decide +kernel
theorem dX6_numberOf_40 : decode cX6_numberOf 40 = .ok (.ireturn, 1) := by decide +kernel
theorem dX6_wordOf_0 : decode cX6_wordOf 0 = .ok (.iconst 0, 1) := by decide +kernel
theorem dX6_wordOf_1 : decode cX6_wordOf 1 = .ok (.istore_n 3, 1) := by decide +kernel
theorem dX6_wordOf_2 : decode cX6_wordOf 2 = .ok (.iconst 0, 1) := by decide +kernel
theorem dX6_wordOf_3 : decode cX6_wordOf 3 = .ok (.istore 4, 2) := by decide +kernel
theorem dX6_wordOf_5 : decode cX6_wordOf 5 = .ok (.iconst 0, 1) := by decide +kernel
theorem dX6_wordOf_6 : decode cX6_wordOf 6 = .ok (.istore 5, 2) := by decide +kernel
theorem dX6_wordOf_8 : decode cX6_wordOf 8 = .ok (.iload 5, 2) := by decide +kernel
theorem dX6_wordOf_10 : decode cX6_wordOf 10 = .ok (.ldc 80, 2) := by decide +kernel
theorem dX6_wordOf_12 : decode cX6_wordOf 12 = .ok (.invokevirtual 82, 3) := by decide +kernel
theorem dX6_wordOf_15 : decode cX6_wordOf 15 = .ok (.if_icmp .ge 59, 3) := by decide +kernel
theorem dX6_wordOf_18 : decode cX6_wordOf 18 = .ok (.ldc 80, 2) := by decide +kernel
theorem dX6_wordOf_20 : decode cX6_wordOf 20 = .ok (.iload 5, 2) := by decide +kernel
theorem dX6_wordOf_22 : decode cX6_wordOf 22 = .ok (.invokevirtual 87, 3) := by decide +kernel
theorem dX6_wordOf_25 : decode cX6_wordOf 25 = .ok (.bipush 32, 2) := by decide +kernel
theorem dX6_wordOf_27 : decode cX6_wordOf 27 = .ok (.if_icmp .ne 41, 3) := by decide +kernel
theorem dX6_wordOf_30 : decode cX6_wordOf 30 = .ok (.iload 5, 2) := by decide +kernel
theorem dX6_wordOf_32 : decode cX6_wordOf 32 = .ok (.iload 4, 2) := by decide +kernel
theorem dX6_wordOf_34 : decode cX6_wordOf 34 = .ok (.isub, 1) := by decide +kernel
theorem dX6_wordOf_35 : decode cX6_wordOf 35 = .ok (.iload_n 2, 1) := by decide +kernel
theorem dX6_wordOf_36 : decode cX6_wordOf 36 = .ok (.iload_n 1, 1) := by decide +kernel
theorem dX6_wordOf_37 : decode cX6_wordOf 37 = .ok (.isub, 1) := by decide +kernel
theorem dX6_wordOf_38 : decode cX6_wordOf 38 = .ok (.if_icmp .ne 21, 3) := by decide +kernel
theorem dX6_wordOf_41 : decode cX6_wordOf 41 = .ok (.aload_n 0, 1) := by decide +kernel
theorem dX6_wordOf_42 : decode cX6_wordOf 42 = .ok (.iload 4, 2) := by decide +kernel
theorem dX6_wordOf_44 : decode cX6_wordOf 44 = .ok (.iload 5, 2) := by decide +kernel
theorem dX6_wordOf_46 : decode cX6_wordOf 46 = .ok (.iload_n 1, 1) := by decide +kernel
theorem dX6_wordOf_47 : decode cX6_wordOf 47 = .ok (.invokevirtual 91, 3) := by decide +kernel
theorem dX6_wordOf_50 : decode cX6_wordOf 50 = .ok (.ifCond .eq 9, 3) := by decide +kernel
theorem dX6_wordOf_53 : decode cX6_wordOf 53 = .ok (.sipush 200, 3) := by decide +kernel
theorem dX6_wordOf_56 : decode cX6_wordOf 56 = .ok (.iload_n 3, 1) := by decide +kernel
theorem dX6_wordOf_57 : decode cX6_wordOf 57 = .ok (.iadd, 1) := by decide +kernel
theorem dX6_wordOf_58 : decode cX6_wordOf 58 = .ok (.ireturn, 1) := by decide +kernel
theorem dX6_wordOf_59 : decode cX6_wordOf 59 = .ok (.iinc 3 1, 3) := by decide +kernel
theorem dX6_wordOf_62 : decode cX6_wordOf 62 = .ok (.iload 5, 2) := by decide +kernel
theorem dX6_wordOf_64 : decode cX6_wordOf 64 = .ok (.iconst 1, 1) := by decide +kernel
theorem dX6_wordOf_65 : decode cX6_wordOf 65 = .ok (.iadd, 1) := by decide +kernel
theorem dX6_wordOf_66 : decode cX6_wordOf 66 = .ok (.istore 4, 2) := by decide +kernel
theorem dX6_wordOf_68 : decode cX6_wordOf 68 = .ok (.iinc 5 1, 3) := by decide +kernel
theorem dX6_wordOf_71 : decode cX6_wordOf 71 = .ok (.goto (-63), 3) := by decide +kernel
theorem dX6_wordOf_74 : decode cX6_wordOf 74 = .ok (.iconst 1, 1) := by decide +kernel
theorem dX6_wordOf_75 : decode cX6_wordOf 75 = .ok (.ireturn, 1) := by decide +kernel
theorem dX6_isWord_0 : decode cX6_isWord 0 = .ok (.iload_n 1, 1) := by decide +kernel
theorem dX6_isWord_1 : decode cX6_isWord 1 = .ok (.istore 4, 2) := by decide +kernel
theorem dX6_isWord_3 : decode cX6_isWord 3 = .ok (.iload 4, 2) := by decide +kernel
theorem dX6_isWord_5 : decode cX6_isWord 5 = .ok (.iload_n 2, 1) := by decide +kernel
theorem dX6_isWord_6 : decode cX6_isWord 6 = .ok (.if_icmp .ge 32, 3) := by decide +kernel
theorem dX6_isWord_9 : decode cX6_isWord 9 = .ok (.ldc 80, 2) := by decide +kernel
theorem dX6_isWord_11 : decode cX6_isWord 11 = .ok (.iload 4, 2) := by decide +kernel
theorem dX6_isWord_13 : decode cX6_isWord 13 = .ok (.invokevirtual 87, 3) := by decide +kernel
theorem dX6_isWord_16 : decode cX6_isWord 16 = .ok (.aload_n 0, 1) := by decide +kernel
theorem dX6_isWord_17 : decode cX6_isWord 17 = .ok (.getfield 9, 3) := by decide +kernel
theorem dX6_isWord_20 : decode cX6_isWord 20 = .ok (.iload_n 3, 1) := by decide +kernel
theorem dX6_isWord_21 : decode cX6_isWord 21 = .ok (.iload 4, 2) := by decide +kernel
theorem dX6_isWord_23 : decode cX6_isWord 23 = .ok (.iadd, 1) := by decide +kernel
theorem dX6_isWord_24 : decode cX6_isWord 24 = .ok (.iload_n 1, 1) := by decide +kernel
theorem dX6_isWord_25 : decode cX6_isWord 25 = .ok (.isub, 1) := by decide +kernel
theorem dX6_isWord_26 : decode cX6_isWord 26 = .ok (.iaload, 1) := by decide +kernel
theorem dX6_isWord_27 : decode cX6_isWord 27 = .ok (.if_icmp .eq 5, 3) := by decide +kernel
theorem dX6_isWord_30 : decode cX6_isWord 30 = .ok (.iconst 0, 1) := by decide +kernel
theorem dX6_isWord_31 : decode cX6_isWord 31 = .ok (.ireturn, 1) := by decide +kernel
theorem dX6_isWord_32 : decode cX6_isWord 32 = .ok (.iinc 4 1, 3) := by decide +kernel
theorem dX6_isWord_35 : decode cX6_isWord 35 = .ok (.goto (-32), 3) := by decide +kernel
theorem dX6_isWord_38 : decode cX6_isWord 38 = .ok (.iconst 1, 1) := by decide +kernel
theorem dX6_isWord_39 : decode cX6_isWord 39 = .ok (.ireturn, 1) := by decide +kernel
theorem dX6_refuse_0 : decode cX6_refuse 0 = .ok (.aload_n 0, 1) := by decide +kernel
theorem dX6_refuse_1 : decode cX6_refuse 1 = .ok (.getfield 15, 3) := by decide +kernel
theorem dX6_refuse_4 : decode cX6_refuse 4 = .ok (.ifCond .ne 21, 3) := by decide +kernel
theorem dX6_refuse_7 : decode cX6_refuse 7 = .ok (.aload_n 0, 1) := by decide +kernel
theorem dX6_refuse_8 : decode cX6_refuse 8 = .ok (.iload_n 1, 1) := by decide +kernel
theorem dX6_refuse_9 : decode cX6_refuse 9 = .ok (.putfield 15, 3) := by decide +kernel
theorem dX6_refuse_12 : decode cX6_refuse 12 = .ok (.aload_n 0, 1) := by decide +kernel
theorem dX6_refuse_13 : decode cX6_refuse 13 = .ok (.aload_n 0, 1) := by decide +kernel
theorem dX6_refuse_14 : decode cX6_refuse 14 = .ok (.getfield 25, 3) := by decide +kernel
theorem dX6_refuse_17 : decode cX6_refuse 17 = .ok (.aload_n 0, 1) := by decide +kernel
theorem dX6_refuse_18 : decode cX6_refuse 18 = .ok (.getfield 46, 3) := by decide +kernel
theorem dX6_refuse_21 : decode cX6_refuse 21 = .ok (.iaload, 1) := by decide +kernel
theorem dX6_refuse_22 : decode cX6_refuse 22 = .ok (.putfield 19, 3) := by decide +kernel
theorem dX6_refuse_25 : decode cX6_refuse 25 = .ok (.aload_n 0, 1) := by decide +kernel
theorem dX6_refuse_26 : decode cX6_refuse 26 = .ok (.iconst 0, 1) := by decide +kernel
theorem dX6_refuse_27 : decode cX6_refuse 27 = .ok (.putfield 49, 3) := by decide +kernel
theorem dX6_refuse_30 : decode cX6_refuse 30 = .ok (.return_, 1) := by decide +kernel
theorem dX6_advance_0 : decode cX6_advance 0 = .ok (.aload_n 0, 1) := by decide +kernel
theorem dX6_advance_1 : decode cX6_advance 1 = .ok (.getfield 15, 3) := by decide +kernel
theorem dX6_advance_4 : decode cX6_advance 4 = .ok (.ifCond .ne 37, 3) := by decide +kernel
theorem dX6_advance_7 : decode cX6_advance 7 = .ok (.aload_n 0, 1) := by decide +kernel
theorem dX6_advance_8 : decode cX6_advance 8 = .ok (.getfield 46, 3) := by decide +kernel
theorem dX6_advance_11 : decode cX6_advance 11 = .ok (.aload_n 0, 1) := by decide +kernel
theorem dX6_advance_12 : decode cX6_advance 12 = .ok (.getfield 55, 3) := by decide +kernel
theorem dX6_advance_15 : decode cX6_advance 15 = .ok (.if_icmp .ge 26, 3) := by decide +kernel
theorem dX6_advance_18 : decode cX6_advance 18 = .ok (.aload_n 0, 1) := by decide +kernel
theorem dX6_advance_19 : decode cX6_advance 19 = .ok (.dup, 1) := by decide +kernel
theorem dX6_advance_20 : decode cX6_advance 20 = .ok (.getfield 46, 3) := by decide +kernel
theorem dX6_advance_23 : decode cX6_advance 23 = .ok (.iconst 1, 1) := by decide +kernel
theorem dX6_advance_24 : decode cX6_advance 24 = .ok (.iadd, 1) := by decide +kernel
theorem dX6_advance_25 : decode cX6_advance 25 = .ok (.putfield 46, 3) := by decide +kernel
theorem dX6_advance_28 : decode cX6_advance 28 = .ok (.aload_n 0, 1) := by decide +kernel
theorem dX6_advance_29 : decode cX6_advance 29 = .ok (.aload_n 0, 1) := by decide +kernel
theorem dX6_advance_30 : decode cX6_advance 30 = .ok (.getfield 22, 3) := by decide +kernel
theorem dX6_advance_33 : decode cX6_advance 33 = .ok (.aload_n 0, 1) := by decide +kernel
theorem dX6_advance_34 : decode cX6_advance 34 = .ok (.getfield 46, 3) := by decide +kernel
theorem dX6_advance_37 : decode cX6_advance 37 = .ok (.iaload, 1) := by decide +kernel
theorem dX6_advance_38 : decode cX6_advance 38 = .ok (.putfield 49, 3) := by decide +kernel
theorem dX6_advance_41 : decode cX6_advance 41 = .ok (.return_, 1) := by decide +kernel
theorem dX6_readClause_0 : decode cX6_readClause 0 = .ok (.aload_n 0, 1) := by decide +kernel
theorem dX6_readClause_1 : decode cX6_readClause 1 = .ok (.aload_n 0, 1) := by decide +kernel
theorem dX6_readClause_2 : decode cX6_readClause 2 = .ok (.getfield 49, 3) := by decide +kernel
theorem dX6_readClause_5 : decode cX6_readClause 5 = .ok (.sipush 200, 3) := by decide +kernel
theorem dX6_readClause_8 : decode cX6_readClause 8 = .ok (.isub, 1) := by decide +kernel
theorem dX6_readClause_9 : decode cX6_readClause 9 = .ok (.putfield 95, 3) := by decide +kernel
theorem dX6_readClause_12 : decode cX6_readClause 12 = .ok (.aload_n 0, 1) := by decide +kernel
theorem dX6_readClause_13 : decode cX6_readClause 13 = .ok (.getfield 95, 3) := by decide +kernel
theorem dX6_readClause_16 : decode cX6_readClause 16 = .ok (.ifCond .lt 11, 3) := by decide +kernel
theorem dX6_readClause_19 : decode cX6_readClause 19 = .ok (.aload_n 0, 1) := by decide +kernel
theorem dX6_readClause_20 : decode cX6_readClause 20 = .ok (.getfield 95, 3) := by decide +kernel
theorem dX6_readClause_23 : decode cX6_readClause 23 = .ok (.iconst 3, 1) := by decide +kernel
theorem dX6_readClause_24 : decode cX6_readClause 24 = .ok (.if_icmp .le 11, 3) := by decide +kernel
theorem dX6_readClause_27 : decode cX6_readClause 27 = .ok (.aload_n 0, 1) := by decide +kernel
theorem dX6_readClause_28 : decode cX6_readClause 28 = .ok (.iconst 1, 1) := by decide +kernel
theorem dX6_readClause_29 : decode cX6_readClause 29 = .ok (.invokevirtual 98, 3) := by decide +kernel
theorem dX6_readClause_32 : decode cX6_readClause 32 = .ok (.goto 147, 3) := by decide +kernel
theorem dX6_readClause_35 : decode cX6_readClause 35 = .ok (.aload_n 0, 1) := by decide +kernel
theorem dX6_readClause_36 : decode cX6_readClause 36 = .ok (.getfield 95, 3) := by decide +kernel
theorem dX6_readClause_39 : decode cX6_readClause 39 = .ok (.iconst 2, 1) := by decide +kernel
theorem dX6_readClause_40 : decode cX6_readClause 40 = .ok (.if_icmp .eq 25, 3) := by decide +kernel
theorem dX6_readClause_43 : decode cX6_readClause 43 = .ok (.aload_n 0, 1) := by decide +kernel
theorem dX6_readClause_44 : decode cX6_readClause 44 = .ok (.getfield 34, 3) := by decide +kernel
theorem dX6_readClause_47 : decode cX6_readClause 47 = .ok (.aload_n 0, 1) := by decide +kernel
theorem dX6_readClause_48 : decode cX6_readClause 48 = .ok (.getfield 95, 3) := by decide +kernel
theorem dX6_readClause_51 : decode cX6_readClause 51 = .ok (.invokestatic 102, 3) := by decide +kernel
theorem dX6_readClause_54 : decode cX6_readClause 54 = .ok (.ifCond .eq 11, 3) := by decide +kernel
theorem dX6_readClause_57 : decode cX6_readClause 57 = .ok (.aload_n 0, 1) := by decide +kernel
theorem dX6_readClause_58 : decode cX6_readClause 58 = .ok (.iconst 4, 1) := by decide +kernel
theorem dX6_readClause_59 : decode cX6_readClause 59 = .ok (.invokevirtual 98, 3) := by decide +kernel
theorem dX6_readClause_62 : decode cX6_readClause 62 = .ok (.goto 117, 3) := by decide +kernel
theorem dX6_readClause_65 : decode cX6_readClause 65 = .ok (.aload_n 0, 1) := by decide +kernel
theorem dX6_readClause_66 : decode cX6_readClause 66 = .ok (.getfield 37, 3) := by decide +kernel
theorem dX6_readClause_69 : decode cX6_readClause 69 = .ok (.getfield 106, 3) := by decide +kernel
theorem dX6_readClause_72 : decode cX6_readClause 72 = .ok (.bipush 20, 2) := by decide +kernel
theorem dX6_readClause_74 : decode cX6_readClause 74 = .ok (.if_icmp .lt 12, 3) := by decide +kernel
theorem dX6_readClause_77 : decode cX6_readClause 77 = .ok (.aload_n 0, 1) := by decide +kernel
theorem dX6_readClause_78 : decode cX6_readClause 78 = .ok (.bipush 6, 2) := by decide +kernel
theorem dX6_readClause_80 : decode cX6_readClause 80 = .ok (.invokevirtual 98, 3) := by decide +kernel
theorem dX6_readClause_83 : decode cX6_readClause 83 = .ok (.goto 96, 3) := by decide +kernel
theorem dX6_readClause_86 : decode cX6_readClause 86 = .ok (.aload_n 0, 1) := by decide +kernel
theorem dX6_readClause_87 : decode cX6_readClause 87 = .ok (.dup, 1) := by decide +kernel
theorem dX6_readClause_88 : decode cX6_readClause 88 = .ok (.getfield 34, 3) := by decide +kernel
theorem dX6_readClause_91 : decode cX6_readClause 91 = .ok (.iconst 1, 1) := by decide +kernel
theorem dX6_readClause_92 : decode cX6_readClause 92 = .ok (.aload_n 0, 1) := by decide +kernel
theorem dX6_readClause_93 : decode cX6_readClause 93 = .ok (.getfield 95, 3) := by decide +kernel
theorem dX6_readClause_96 : decode cX6_readClause 96 = .ok (.ishl, 1) := by decide +kernel
theorem dX6_readClause_97 : decode cX6_readClause 97 = .ok (.ior, 1) := by decide +kernel
theorem dX6_readClause_98 : decode cX6_readClause 98 = .ok (.putfield 34, 3) := by decide +kernel
theorem dX6_readClause_101 : decode cX6_readClause 101 = .ok (.aload_n 0, 1) := by decide +kernel
theorem dX6_readClause_102 : decode cX6_readClause 102 = .ok (.getfield 37, 3) := by decide +kernel
theorem dX6_readClause_105 : decode cX6_readClause 105 = .ok (.aload_n 0, 1) := by decide +kernel
theorem dX6_readClause_106 : decode cX6_readClause 106 = .ok (.getfield 95, 3) := by decide +kernel
theorem dX6_readClause_109 : decode cX6_readClause 109 = .ok (.invokevirtual 109, 3) := by decide +kernel
theorem dX6_readClause_112 : decode cX6_readClause 112 = .ok (.aload_n 0, 1) := by decide +kernel
theorem dX6_readClause_113 : decode cX6_readClause 113 = .ok (.invokevirtual 112, 3) := by decide +kernel
theorem dX6_readClause_116 : decode cX6_readClause 116 = .ok (.aload_n 0, 1) := by decide +kernel
theorem dX6_readClause_117 : decode cX6_readClause 117 = .ok (.getfield 95, 3) := by decide +kernel
theorem dX6_readClause_120 : decode cX6_readClause 120 = .ok (.iconst 2, 1) := by decide +kernel
theorem dX6_readClause_121 : decode cX6_readClause 121 = .ok (.if_icmp .ne 7, 3) := by decide +kernel
theorem dX6_readClause_124 : decode cX6_readClause 124 = .ok (.aload_n 0, 1) := by decide +kernel
theorem dX6_readClause_125 : decode cX6_readClause 125 = .ok (.invokevirtual 115, 3) := by decide +kernel
theorem dX6_readClause_128 : decode cX6_readClause 128 = .ok (.aload_n 0, 1) := by decide +kernel
theorem dX6_readClause_129 : decode cX6_readClause 129 = .ok (.getfield 95, 3) := by decide +kernel
theorem dX6_readClause_132 : decode cX6_readClause 132 = .ok (.iconst 1, 1) := by decide +kernel
theorem dX6_readClause_133 : decode cX6_readClause 133 = .ok (.if_icmp .ne 11, 3) := by decide +kernel
theorem dX6_readClause_136 : decode cX6_readClause 136 = .ok (.aload_n 0, 1) := by decide +kernel
theorem dX6_readClause_137 : decode cX6_readClause 137 = .ok (.iconst 0, 1) := by decide +kernel
theorem dX6_readClause_138 : decode cX6_readClause 138 = .ok (.invokevirtual 118, 3) := by decide +kernel
theorem dX6_readClause_141 : decode cX6_readClause 141 = .ok (.goto 7, 3) := by decide +kernel
theorem dX6_readClause_144 : decode cX6_readClause 144 = .ok (.aload_n 0, 1) := by decide +kernel
theorem dX6_readClause_145 : decode cX6_readClause 145 = .ok (.invokevirtual 121, 3) := by decide +kernel
theorem dX6_readClause_148 : decode cX6_readClause 148 = .ok (.aload_n 0, 1) := by decide +kernel
theorem dX6_readClause_149 : decode cX6_readClause 149 = .ok (.getfield 37, 3) := by decide +kernel
theorem dX6_readClause_152 : decode cX6_readClause 152 = .ok (.sipush 30000, 3) := by decide +kernel
theorem dX6_readClause_155 : decode cX6_readClause 155 = .ok (.invokevirtual 124, 3) := by decide +kernel
theorem dX6_readClause_158 : decode cX6_readClause 158 = .ok (.aload_n 0, 1) := by decide +kernel
theorem dX6_readClause_159 : decode cX6_readClause 159 = .ok (.getfield 49, 3) := by decide +kernel
theorem dX6_readClause_162 : decode cX6_readClause 162 = .ok (.bipush 59, 2) := by decide +kernel
theorem dX6_readClause_164 : decode cX6_readClause 164 = .ok (.if_icmp .ne 10, 3) := by decide +kernel
theorem dX6_readClause_167 : decode cX6_readClause 167 = .ok (.aload_n 0, 1) := by decide +kernel
theorem dX6_readClause_168 : decode cX6_readClause 168 = .ok (.invokevirtual 112, 3) := by decide +kernel
theorem dX6_readClause_171 : decode cX6_readClause 171 = .ok (.goto 8, 3) := by decide +kernel
theorem dX6_readClause_174 : decode cX6_readClause 174 = .ok (.aload_n 0, 1) := by decide +kernel
theorem dX6_readClause_175 : decode cX6_readClause 175 = .ok (.iconst 1, 1) := by decide +kernel
theorem dX6_readClause_176 : decode cX6_readClause 176 = .ok (.invokevirtual 98, 3) := by decide +kernel
theorem dX6_readClause_179 : decode cX6_readClause 179 = .ok (.return_, 1) := by decide +kernel
theorem dX6_readOwner_0 : decode cX6_readOwner 0 = .ok (.aload_n 0, 1) := by decide +kernel
theorem dX6_readOwner_1 : decode cX6_readOwner 1 = .ok (.getfield 49, 3) := by decide +kernel
theorem dX6_readOwner_4 : decode cX6_readOwner 4 = .ok (.sipush 1000, 3) := by decide +kernel
theorem dX6_readOwner_7 : decode cX6_readOwner 7 = .ok (.isub, 1) := by decide +kernel
theorem dX6_readOwner_8 : decode cX6_readOwner 8 = .ok (.istore_n 1, 1) := by decide +kernel
theorem dX6_readOwner_9 : decode cX6_readOwner 9 = .ok (.iload_n 1, 1) := by decide +kernel
theorem dX6_readOwner_10 : decode cX6_readOwner 10 = .ok (.ifCond .ge 11, 3) := by decide +kernel
theorem dX6_readOwner_13 : decode cX6_readOwner 13 = .ok (.aload_n 0, 1) := by decide +kernel
theorem dX6_readOwner_14 : decode cX6_readOwner 14 = .ok (.iconst 1, 1) := by decide +kernel
theorem dX6_readOwner_15 : decode cX6_readOwner 15 = .ok (.invokevirtual 98, 3) := by decide +kernel
theorem dX6_readOwner_18 : decode cX6_readOwner 18 = .ok (.goto 29, 3) := by decide +kernel
theorem dX6_readOwner_21 : decode cX6_readOwner 21 = .ok (.iload_n 1, 1) := by decide +kernel
theorem dX6_readOwner_22 : decode cX6_readOwner 22 = .ok (.bipush 9, 2) := by decide +kernel
theorem dX6_readOwner_24 : decode cX6_readOwner 24 = .ok (.if_icmp .le 11, 3) := by decide +kernel
theorem dX6_readOwner_27 : decode cX6_readOwner 27 = .ok (.aload_n 0, 1) := by decide +kernel
theorem dX6_readOwner_28 : decode cX6_readOwner 28 = .ok (.iconst 2, 1) := by decide +kernel
theorem dX6_readOwner_29 : decode cX6_readOwner 29 = .ok (.invokevirtual 98, 3) := by decide +kernel
theorem dX6_readOwner_32 : decode cX6_readOwner 32 = .ok (.goto 15, 3) := by decide +kernel
theorem dX6_readOwner_35 : decode cX6_readOwner 35 = .ok (.aload_n 0, 1) := by decide +kernel
theorem dX6_readOwner_36 : decode cX6_readOwner 36 = .ok (.getfield 37, 3) := by decide +kernel
theorem dX6_readOwner_39 : decode cX6_readOwner 39 = .ok (.iload_n 1, 1) := by decide +kernel
theorem dX6_readOwner_40 : decode cX6_readOwner 40 = .ok (.invokevirtual 127, 3) := by decide +kernel
theorem dX6_readOwner_43 : decode cX6_readOwner 43 = .ok (.aload_n 0, 1) := by decide +kernel
theorem dX6_readOwner_44 : decode cX6_readOwner 44 = .ok (.invokevirtual 112, 3) := by decide +kernel
theorem dX6_readOwner_47 : decode cX6_readOwner 47 = .ok (.return_, 1) := by decide +kernel
theorem dX6_readEither_0 : decode cX6_readEither 0 = .ok (.iconst 1, 1) := by decide +kernel
theorem dX6_readEither_1 : decode cX6_readEither 1 = .ok (.istore_n 1, 1) := by decide +kernel
theorem dX6_readEither_2 : decode cX6_readEither 2 = .ok (.iconst 0, 1) := by decide +kernel
theorem dX6_readEither_3 : decode cX6_readEither 3 = .ok (.istore_n 2, 1) := by decide +kernel
theorem dX6_readEither_4 : decode cX6_readEither 4 = .ok (.iload_n 2, 1) := by decide +kernel
theorem dX6_readEither_5 : decode cX6_readEither 5 = .ok (.sipush 300, 3) := by decide +kernel
theorem dX6_readEither_8 : decode cX6_readEither 8 = .ok (.if_icmp .ge 100, 3) := by decide +kernel
theorem dX6_readEither_11 : decode cX6_readEither 11 = .ok (.iload_n 1, 1) := by decide +kernel
theorem dX6_readEither_12 : decode cX6_readEither 12 = .ok (.ifCond .eq 96, 3) := by decide +kernel
theorem dX6_readEither_15 : decode cX6_readEither 15 = .ok (.aload_n 0, 1) := by decide +kernel
theorem dX6_readEither_16 : decode cX6_readEither 16 = .ok (.iconst 0, 1) := by decide +kernel
theorem dX6_readEither_17 : decode cX6_readEither 17 = .ok (.invokevirtual 130, 3) := by decide +kernel
theorem dX6_readEither_20 : decode cX6_readEither 20 = .ok (.iconst 0, 1) := by decide +kernel
theorem dX6_readEither_21 : decode cX6_readEither 21 = .ok (.istore_n 3, 1) := by decide +kernel
theorem dX6_readEither_22 : decode cX6_readEither 22 = .ok (.iload_n 3, 1) := by decide +kernel
theorem dX6_readEither_23 : decode cX6_readEither 23 = .ok (.sipush 300, 3) := by decide +kernel
theorem dX6_readEither_26 : decode cX6_readEither 26 = .ok (.if_icmp .ge 38, 3) := by decide +kernel
theorem dX6_readEither_29 : decode cX6_readEither 29 = .ok (.aload_n 0, 1) := by decide +kernel
theorem dX6_readEither_30 : decode cX6_readEither 30 = .ok (.getfield 49, 3) := by decide +kernel
theorem dX6_readEither_33 : decode cX6_readEither 33 = .ok (.sipush 205, 3) := by decide +kernel
theorem dX6_readEither_36 : decode cX6_readEither 36 = .ok (.if_icmp .ne 28, 3) := by decide +kernel
theorem dX6_readEither_39 : decode cX6_readEither 39 = .ok (.aload_n 0, 1) := by decide +kernel
theorem dX6_readEither_40 : decode cX6_readEither 40 = .ok (.invokevirtual 112, 3) := by decide +kernel
theorem dX6_readEither_43 : decode cX6_readEither 43 = .ok (.aload_n 0, 1) := by decide +kernel
theorem dX6_readEither_44 : decode cX6_readEither 44 = .ok (.iconst 0, 1) := by decide +kernel
theorem dX6_readEither_45 : decode cX6_readEither 45 = .ok (.invokevirtual 130, 3) := by decide +kernel
theorem dX6_readEither_48 : decode cX6_readEither 48 = .ok (.aload_n 0, 1) := by decide +kernel
theorem dX6_readEither_49 : decode cX6_readEither 49 = .ok (.getfield 37, 3) := by decide +kernel
theorem dX6_readEither_52 : decode cX6_readEither 52 = .ok (.sipush 20205, 3) := by decide +kernel
theorem dX6_readEither_55 : decode cX6_readEither 55 = .ok (.invokevirtual 124, 3) := by decide +kernel
theorem dX6_readEither_58 : decode cX6_readEither 58 = .ok (.iinc 3 1, 3) := by decide +kernel
theorem dX6_readEither_61 : decode cX6_readEither 61 = .ok (.goto (-39), 3) := by decide +kernel
theorem dX6_readEither_64 : decode cX6_readEither 64 = .ok (.iload_n 2, 1) := by decide +kernel
theorem dX6_readEither_65 : decode cX6_readEither 65 = .ok (.ifCond .le 13, 3) := by decide +kernel
theorem dX6_readEither_68 : decode cX6_readEither 68 = .ok (.aload_n 0, 1) := by decide +kernel
theorem dX6_readEither_69 : decode cX6_readEither 69 = .ok (.getfield 37, 3) := by decide +kernel
theorem dX6_readEither_72 : decode cX6_readEither 72 = .ok (.sipush 20204, 3) := by decide +kernel
theorem dX6_readEither_75 : decode cX6_readEither 75 = .ok (.invokevirtual 124, 3) := by decide +kernel
theorem dX6_readEither_78 : decode cX6_readEither 78 = .ok (.aload_n 0, 1) := by decide +kernel
theorem dX6_readEither_79 : decode cX6_readEither 79 = .ok (.getfield 49, 3) := by decide +kernel
theorem dX6_readEither_82 : decode cX6_readEither 82 = .ok (.sipush 204, 3) := by decide +kernel
theorem dX6_readEither_85 : decode cX6_readEither 85 = .ok (.if_icmp .ne 7, 3) := by decide +kernel
theorem dX6_readEither_88 : decode cX6_readEither 88 = .ok (.iconst 1, 1) := by decide +kernel
theorem dX6_readEither_89 : decode cX6_readEither 89 = .ok (.goto 4, 3) := by decide +kernel
theorem dX6_readEither_92 : decode cX6_readEither 92 = .ok (.iconst 0, 1) := by decide +kernel
theorem dX6_readEither_93 : decode cX6_readEither 93 = .ok (.istore_n 1, 1) := by decide +kernel
theorem dX6_readEither_94 : decode cX6_readEither 94 = .ok (.iload_n 1, 1) := by decide +kernel
theorem dX6_readEither_95 : decode cX6_readEither 95 = .ok (.ifCond .eq 7, 3) := by decide +kernel
theorem dX6_readEither_98 : decode cX6_readEither 98 = .ok (.aload_n 0, 1) := by decide +kernel
theorem dX6_readEither_99 : decode cX6_readEither 99 = .ok (.invokevirtual 112, 3) := by decide +kernel
theorem dX6_readEither_102 : decode cX6_readEither 102 = .ok (.iinc 2 1, 3) := by decide +kernel
theorem dX6_readEither_105 : decode cX6_readEither 105 = .ok (.goto (-101), 3) := by decide +kernel
theorem dX6_readEither_108 : decode cX6_readEither 108 = .ok (.return_, 1) := by decide +kernel
theorem dX6_readAsked_0 : decode cX6_readAsked 0 = .ok (.aload_n 0, 1) := by decide +kernel
theorem dX6_readAsked_1 : decode cX6_readAsked 1 = .ok (.getfield 49, 3) := by decide +kernel
theorem dX6_readAsked_4 : decode cX6_readAsked 4 = .ok (.sipush 206, 3) := by decide +kernel
theorem dX6_readAsked_7 : decode cX6_readAsked 7 = .ok (.if_icmp .ne 39, 3) := by decide +kernel
theorem dX6_readAsked_10 : decode cX6_readAsked 10 = .ok (.iload_n 1, 1) := by decide +kernel
theorem dX6_readAsked_11 : decode cX6_readAsked 11 = .ok (.bipush 8, 2) := by decide +kernel
theorem dX6_readAsked_13 : decode cX6_readAsked 13 = .ok (.if_icmp .lt 11, 3) := by decide +kernel
theorem dX6_readAsked_16 : decode cX6_readAsked 16 = .ok (.aload_n 0, 1) := by decide +kernel
theorem dX6_readAsked_17 : decode cX6_readAsked 17 = .ok (.iconst 3, 1) := by decide +kernel
theorem dX6_readAsked_18 : decode cX6_readAsked 18 = .ok (.invokevirtual 98, 3) := by decide +kernel
theorem dX6_readAsked_21 : decode cX6_readAsked 21 = .ok (.goto 24, 3) := by decide +kernel
theorem dX6_readAsked_24 : decode cX6_readAsked 24 = .ok (.aload_n 0, 1) := by decide +kernel
theorem dX6_readAsked_25 : decode cX6_readAsked 25 = .ok (.invokevirtual 112, 3) := by decide +kernel
theorem dX6_readAsked_28 : decode cX6_readAsked 28 = .ok (.aload_n 0, 1) := by decide +kernel
theorem dX6_readAsked_29 : decode cX6_readAsked 29 = .ok (.iload_n 1, 1) := by decide +kernel
theorem dX6_readAsked_30 : decode cX6_readAsked 30 = .ok (.iconst 1, 1) := by decide +kernel
theorem dX6_readAsked_31 : decode cX6_readAsked 31 = .ok (.iadd, 1) := by decide +kernel
theorem dX6_readAsked_32 : decode cX6_readAsked 32 = .ok (.invokevirtual 130, 3) := by decide +kernel
theorem dX6_readAsked_35 : decode cX6_readAsked 35 = .ok (.aload_n 0, 1) := by decide +kernel
theorem dX6_readAsked_36 : decode cX6_readAsked 36 = .ok (.getfield 37, 3) := by decide +kernel
theorem dX6_readAsked_39 : decode cX6_readAsked 39 = .ok (.sipush 20206, 3) := by decide +kernel
theorem dX6_readAsked_42 : decode cX6_readAsked 42 = .ok (.invokevirtual 124, 3) := by decide +kernel
theorem dX6_readAsked_45 : decode cX6_readAsked 45 = .ok (.return_, 1) := by decide +kernel
theorem dX6_readAsked_46 : decode cX6_readAsked 46 = .ok (.aload_n 0, 1) := by decide +kernel
theorem dX6_readAsked_47 : decode cX6_readAsked 47 = .ok (.iload_n 1, 1) := by decide +kernel
theorem dX6_readAsked_48 : decode cX6_readAsked 48 = .ok (.invokevirtual 118, 3) := by decide +kernel
theorem dX6_readAsked_51 : decode cX6_readAsked 51 = .ok (.aload_n 0, 1) := by decide +kernel
theorem dX6_readAsked_52 : decode cX6_readAsked 52 = .ok (.getfield 49, 3) := by decide +kernel
theorem dX6_readAsked_55 : decode cX6_readAsked 55 = .ok (.istore_n 2, 1) := by decide +kernel
theorem dX6_readAsked_56 : decode cX6_readAsked 56 = .ok (.iload_n 2, 1) := by decide +kernel
theorem dX6_readAsked_57 : decode cX6_readAsked 57 = .ok (.invokestatic 133, 3) := by decide +kernel
theorem dX6_readAsked_60 : decode cX6_readAsked 60 = .ok (.ifCond .eq 27, 3) := by decide +kernel
theorem dX6_readAsked_63 : decode cX6_readAsked 63 = .ok (.aload_n 0, 1) := by decide +kernel
theorem dX6_readAsked_64 : decode cX6_readAsked 64 = .ok (.invokevirtual 112, 3) := by decide +kernel
theorem dX6_readAsked_67 : decode cX6_readAsked 67 = .ok (.aload_n 0, 1) := by decide +kernel
theorem dX6_readAsked_68 : decode cX6_readAsked 68 = .ok (.iload_n 1, 1) := by decide +kernel
theorem dX6_readAsked_69 : decode cX6_readAsked 69 = .ok (.invokevirtual 118, 3) := by decide +kernel
theorem dX6_readAsked_72 : decode cX6_readAsked 72 = .ok (.aload_n 0, 1) := by decide +kernel
theorem dX6_readAsked_73 : decode cX6_readAsked 73 = .ok (.getfield 37, 3) := by decide +kernel
theorem dX6_readAsked_76 : decode cX6_readAsked 76 = .ok (.sipush 20000, 3) := by decide +kernel
theorem dX6_readAsked_79 : decode cX6_readAsked 79 = .ok (.iload_n 2, 1) := by decide +kernel
theorem dX6_readAsked_80 : decode cX6_readAsked 80 = .ok (.iadd, 1) := by decide +kernel
theorem dX6_readAsked_81 : decode cX6_readAsked 81 = .ok (.invokevirtual 124, 3) := by decide +kernel
theorem dX6_readAsked_84 : decode cX6_readAsked 84 = .ok (.goto 8, 3) := by decide +kernel
theorem dX6_readAsked_87 : decode cX6_readAsked 87 = .ok (.aload_n 0, 1) := by decide +kernel
theorem dX6_readAsked_88 : decode cX6_readAsked 88 = .ok (.iconst 1, 1) := by decide +kernel
theorem dX6_readAsked_89 : decode cX6_readAsked 89 = .ok (.invokevirtual 98, 3) := by decide +kernel
theorem dX6_readAsked_92 : decode cX6_readAsked 92 = .ok (.return_, 1) := by decide +kernel
theorem dX6_isComparison_0 : decode cX6_isComparison 0 = .ok (.iload_n 0, 1) := by decide +kernel
theorem dX6_isComparison_1 : decode cX6_isComparison 1 = .ok (.bipush 60, 2) := by decide +kernel
theorem dX6_isComparison_3 : decode cX6_isComparison 3 = .ok (.if_icmp .eq 31, 3) := by decide +kernel
theorem dX6_isComparison_6 : decode cX6_isComparison 6 = .ok (.iload_n 0, 1) := by decide +kernel
theorem dX6_isComparison_7 : decode cX6_isComparison 7 = .ok (.bipush 62, 2) := by decide +kernel
theorem dX6_isComparison_9 : decode cX6_isComparison 9 = .ok (.if_icmp .eq 25, 3) := by decide +kernel
theorem dX6_isComparison_12 : decode cX6_isComparison 12 = .ok (.iload_n 0, 1) := by decide +kernel
theorem dX6_isComparison_13 : decode cX6_isComparison 13 = .ok (.bipush 61, 2) := by decide +kernel
theorem dX6_isComparison_15 : decode cX6_isComparison 15 = .ok (.if_icmp .eq 19, 3) := by decide +kernel
theorem dX6_isComparison_18 : decode cX6_isComparison 18 = .ok (.iload_n 0, 1) := by decide +kernel
theorem dX6_isComparison_19 : decode cX6_isComparison 19 = .ok (.bipush 35, 2) := by decide +kernel
theorem dX6_isComparison_21 : decode cX6_isComparison 21 = .ok (.if_icmp .eq 13, 3) := by decide +kernel
theorem dX6_isComparison_24 : decode cX6_isComparison 24 = .ok (.iload_n 0, 1) := by decide +kernel
theorem dX6_isComparison_25 : decode cX6_isComparison 25 = .ok (.iconst 2, 1) := by decide +kernel
theorem dX6_isComparison_26 : decode cX6_isComparison 26 = .ok (.if_icmp .eq 8, 3) := by decide +kernel
theorem dX6_isComparison_29 : decode cX6_isComparison 29 = .ok (.iload_n 0, 1) := by decide +kernel
theorem dX6_isComparison_30 : decode cX6_isComparison 30 = .ok (.iconst 3, 1) := by decide +kernel
theorem dX6_isComparison_31 : decode cX6_isComparison 31 = .ok (.if_icmp .ne 7, 3) := by decide +kernel
theorem dX6_isComparison_34 : decode cX6_isComparison 34 = .ok (.iconst 1, 1) := by decide +kernel
theorem dX6_isComparison_35 : decode cX6_isComparison 35 = .ok (.goto 4, 3) := by decide +kernel
theorem dX6_isComparison_38 : decode cX6_isComparison 38 = .ok (.iconst 0, 1) := by decide +kernel
theorem dX6_isComparison_39 : decode cX6_isComparison 39 = .ok (.ireturn, 1) := by decide +kernel
theorem dX6_readSum_0 : decode cX6_readSum 0 = .ok (.iconst (-1), 1) := by decide +kernel
theorem dX6_readSum_1 : decode cX6_readSum 1 = .ok (.istore_n 2, 1) := by decide +kernel
theorem dX6_readSum_2 : decode cX6_readSum 2 = .ok (.iconst 0, 1) := by decide +kernel
theorem dX6_readSum_3 : decode cX6_readSum 3 = .ok (.istore_n 3, 1) := by decide +kernel
theorem dX6_readSum_4 : decode cX6_readSum 4 = .ok (.iload_n 3, 1) := by decide +kernel
theorem dX6_readSum_5 : decode cX6_readSum 5 = .ok (.sipush 300, 3) := by decide +kernel
theorem dX6_readSum_8 : decode cX6_readSum 8 = .ok (.if_icmp .ge 133, 3) := by decide +kernel
theorem dX6_readSum_11 : decode cX6_readSum 11 = .ok (.iload_n 2, 1) := by decide +kernel
theorem dX6_readSum_12 : decode cX6_readSum 12 = .ok (.ifCond .eq 129, 3) := by decide +kernel
theorem dX6_readSum_15 : decode cX6_readSum 15 = .ok (.aload_n 0, 1) := by decide +kernel
theorem dX6_readSum_16 : decode cX6_readSum 16 = .ok (.iload_n 1, 1) := by decide +kernel
theorem dX6_readSum_17 : decode cX6_readSum 17 = .ok (.invokevirtual 137, 3) := by decide +kernel
theorem dX6_readSum_20 : decode cX6_readSum 20 = .ok (.iconst 0, 1) := by decide +kernel
theorem dX6_readSum_21 : decode cX6_readSum 21 = .ok (.istore 4, 2) := by decide +kernel
theorem dX6_readSum_23 : decode cX6_readSum 23 = .ok (.iload 4, 2) := by decide +kernel
theorem dX6_readSum_25 : decode cX6_readSum 25 = .ok (.sipush 300, 3) := by decide +kernel
theorem dX6_readSum_28 : decode cX6_readSum 28 = .ok (.if_icmp .ge 55, 3) := by decide +kernel
theorem dX6_readSum_31 : decode cX6_readSum 31 = .ok (.aload_n 0, 1) := by decide +kernel
theorem dX6_readSum_32 : decode cX6_readSum 32 = .ok (.getfield 49, 3) := by decide +kernel
theorem dX6_readSum_35 : decode cX6_readSum 35 = .ok (.bipush 42, 2) := by decide +kernel
theorem dX6_readSum_37 : decode cX6_readSum 37 = .ok (.if_icmp .eq 12, 3) := by decide +kernel
theorem dX6_readSum_40 : decode cX6_readSum 40 = .ok (.aload_n 0, 1) := by decide +kernel
theorem dX6_readSum_41 : decode cX6_readSum 41 = .ok (.getfield 49, 3) := by decide +kernel
theorem dX6_readSum_44 : decode cX6_readSum 44 = .ok (.bipush 47, 2) := by decide +kernel
theorem dX6_readSum_46 : decode cX6_readSum 46 = .ok (.if_icmp .ne 37, 3) := by decide +kernel
theorem dX6_readSum_49 : decode cX6_readSum 49 = .ok (.aload_n 0, 1) := by decide +kernel
theorem dX6_readSum_50 : decode cX6_readSum 50 = .ok (.getfield 49, 3) := by decide +kernel
theorem dX6_readSum_53 : decode cX6_readSum 53 = .ok (.istore 5, 2) := by decide +kernel
theorem dX6_readSum_55 : decode cX6_readSum 55 = .ok (.aload_n 0, 1) := by decide +kernel
theorem dX6_readSum_56 : decode cX6_readSum 56 = .ok (.invokevirtual 112, 3) := by decide +kernel
theorem dX6_readSum_59 : decode cX6_readSum 59 = .ok (.aload_n 0, 1) := by decide +kernel
theorem dX6_readSum_60 : decode cX6_readSum 60 = .ok (.iload_n 1, 1) := by decide +kernel
theorem dX6_readSum_61 : decode cX6_readSum 61 = .ok (.invokevirtual 137, 3) := by decide +kernel
theorem dX6_readSum_64 : decode cX6_readSum 64 = .ok (.aload_n 0, 1) := by decide +kernel
theorem dX6_readSum_65 : decode cX6_readSum 65 = .ok (.getfield 37, 3) := by decide +kernel
theorem dX6_readSum_68 : decode cX6_readSum 68 = .ok (.sipush 20000, 3) := by decide +kernel
theorem dX6_readSum_71 : decode cX6_readSum 71 = .ok (.iload 5, 2) := by decide +kernel
theorem dX6_readSum_73 : decode cX6_readSum 73 = .ok (.iadd, 1) := by decide +kernel
theorem dX6_readSum_74 : decode cX6_readSum 74 = .ok (.invokevirtual 124, 3) := by decide +kernel
theorem dX6_readSum_77 : decode cX6_readSum 77 = .ok (.iinc 4 1, 3) := by decide +kernel
theorem dX6_readSum_80 : decode cX6_readSum 80 = .ok (.goto (-57), 3) := by decide +kernel
theorem dX6_readSum_83 : decode cX6_readSum 83 = .ok (.iload_n 2, 1) := by decide +kernel
theorem dX6_readSum_84 : decode cX6_readSum 84 = .ok (.iconst (-1), 1) := by decide +kernel
theorem dX6_readSum_85 : decode cX6_readSum 85 = .ok (.if_icmp .eq 15, 3) := by decide +kernel
theorem dX6_readSum_88 : decode cX6_readSum 88 = .ok (.aload_n 0, 1) := by decide +kernel
theorem dX6_readSum_89 : decode cX6_readSum 89 = .ok (.getfield 37, 3) := by decide +kernel
theorem dX6_readSum_92 : decode cX6_readSum 92 = .ok (.sipush 20000, 3) := by decide +kernel
theorem dX6_readSum_95 : decode cX6_readSum 95 = .ok (.iload_n 2, 1) := by decide +kernel
theorem dX6_readSum_96 : decode cX6_readSum 96 = .ok (.iadd, 1) := by decide +kernel
theorem dX6_readSum_97 : decode cX6_readSum 97 = .ok (.invokevirtual 124, 3) := by decide +kernel
theorem dX6_readSum_100 : decode cX6_readSum 100 = .ok (.aload_n 0, 1) := by decide +kernel
theorem dX6_readSum_101 : decode cX6_readSum 101 = .ok (.getfield 49, 3) := by decide +kernel
theorem dX6_readSum_104 : decode cX6_readSum 104 = .ok (.bipush 43, 2) := by decide +kernel
theorem dX6_readSum_106 : decode cX6_readSum 106 = .ok (.if_icmp .eq 12, 3) := by decide +kernel
theorem dX6_readSum_109 : decode cX6_readSum 109 = .ok (.aload_n 0, 1) := by decide +kernel
theorem dX6_readSum_110 : decode cX6_readSum 110 = .ok (.getfield 49, 3) := by decide +kernel
theorem dX6_readSum_113 : decode cX6_readSum 113 = .ok (.bipush 45, 2) := by decide +kernel
theorem dX6_readSum_115 : decode cX6_readSum 115 = .ok (.if_icmp .ne 10, 3) := by decide +kernel
theorem dX6_readSum_118 : decode cX6_readSum 118 = .ok (.aload_n 0, 1) := by decide +kernel
theorem dX6_readSum_119 : decode cX6_readSum 119 = .ok (.getfield 49, 3) := by decide +kernel
theorem dX6_readSum_122 : decode cX6_readSum 122 = .ok (.goto 4, 3) := by decide +kernel
theorem dX6_readSum_125 : decode cX6_readSum 125 = .ok (.iconst 0, 1) := by decide +kernel
theorem dX6_readSum_126 : decode cX6_readSum 126 = .ok (.istore_n 2, 1) := by decide +kernel
theorem dX6_readSum_127 : decode cX6_readSum 127 = .ok (.iload_n 2, 1) := by decide +kernel
theorem dX6_readSum_128 : decode cX6_readSum 128 = .ok (.ifCond .eq 7, 3) := by decide +kernel
theorem dX6_readSum_131 : decode cX6_readSum 131 = .ok (.aload_n 0, 1) := by decide +kernel
theorem dX6_readSum_132 : decode cX6_readSum 132 = .ok (.invokevirtual 112, 3) := by decide +kernel
theorem dX6_readSum_135 : decode cX6_readSum 135 = .ok (.iinc 3 1, 3) := by decide +kernel
theorem dX6_readSum_138 : decode cX6_readSum 138 = .ok (.goto (-134), 3) := by decide +kernel
theorem dX6_readSum_141 : decode cX6_readSum 141 = .ok (.return_, 1) := by decide +kernel
theorem dX6_readOne_0 : decode cX6_readOne 0 = .ok (.aload_n 0, 1) := by decide +kernel
theorem dX6_readOne_1 : decode cX6_readOne 1 = .ok (.getfield 49, 3) := by decide +kernel
theorem dX6_readOne_4 : decode cX6_readOne 4 = .ok (.istore_n 2, 1) := by decide +kernel
theorem dX6_readOne_5 : decode cX6_readOne 5 = .ok (.aload_n 0, 1) := by decide +kernel
theorem dX6_readOne_6 : decode cX6_readOne 6 = .ok (.iload_n 1, 1) := by decide +kernel
theorem dX6_readOne_7 : decode cX6_readOne 7 = .ok (.invokevirtual 140, 3) := by decide +kernel
theorem dX6_readOne_10 : decode cX6_readOne 10 = .ok (.istore_n 3, 1) := by decide +kernel
theorem dX6_readOne_11 : decode cX6_readOne 11 = .ok (.iload_n 3, 1) := by decide +kernel
theorem dX6_readOne_12 : decode cX6_readOne 12 = .ok (.ifCond .eq 9, 3) := by decide +kernel
theorem dX6_readOne_15 : decode cX6_readOne 15 = .ok (.aload_n 0, 1) := by decide +kernel
theorem dX6_readOne_16 : decode cX6_readOne 16 = .ok (.iload_n 3, 1) := by decide +kernel
theorem dX6_readOne_17 : decode cX6_readOne 17 = .ok (.invokevirtual 98, 3) := by decide +kernel
theorem dX6_readOne_20 : decode cX6_readOne 20 = .ok (.return_, 1) := by decide +kernel
theorem dX6_readOne_21 : decode cX6_readOne 21 = .ok (.aload_n 0, 1) := by decide +kernel
theorem dX6_readOne_22 : decode cX6_readOne 22 = .ok (.invokevirtual 112, 3) := by decide +kernel
theorem dX6_readOne_25 : decode cX6_readOne 25 = .ok (.iload_n 2, 1) := by decide +kernel
theorem dX6_readOne_26 : decode cX6_readOne 26 = .ok (.bipush 40, 2) := by decide +kernel
theorem dX6_readOne_28 : decode cX6_readOne 28 = .ok (.if_icmp .ne 34, 3) := by decide +kernel
theorem dX6_readOne_31 : decode cX6_readOne 31 = .ok (.aload_n 0, 1) := by decide +kernel
theorem dX6_readOne_32 : decode cX6_readOne 32 = .ok (.iload_n 1, 1) := by decide +kernel
theorem dX6_readOne_33 : decode cX6_readOne 33 = .ok (.iconst 1, 1) := by decide +kernel
theorem dX6_readOne_34 : decode cX6_readOne 34 = .ok (.iadd, 1) := by decide +kernel
theorem dX6_readOne_35 : decode cX6_readOne 35 = .ok (.invokevirtual 118, 3) := by decide +kernel
theorem dX6_readOne_38 : decode cX6_readOne 38 = .ok (.aload_n 0, 1) := by decide +kernel
theorem dX6_readOne_39 : decode cX6_readOne 39 = .ok (.getfield 49, 3) := by decide +kernel
theorem dX6_readOne_42 : decode cX6_readOne 42 = .ok (.bipush 41, 2) := by decide +kernel
theorem dX6_readOne_44 : decode cX6_readOne 44 = .ok (.if_icmp .ne 10, 3) := by decide +kernel
theorem dX6_readOne_47 : decode cX6_readOne 47 = .ok (.aload_n 0, 1) := by decide +kernel
theorem dX6_readOne_48 : decode cX6_readOne 48 = .ok (.invokevirtual 112, 3) := by decide +kernel
theorem dX6_readOne_51 : decode cX6_readOne 51 = .ok (.goto 74, 3) := by decide +kernel
theorem dX6_readOne_54 : decode cX6_readOne 54 = .ok (.aload_n 0, 1) := by decide +kernel
theorem dX6_readOne_55 : decode cX6_readOne 55 = .ok (.iconst 1, 1) := by decide +kernel
theorem dX6_readOne_56 : decode cX6_readOne 56 = .ok (.invokevirtual 98, 3) := by decide +kernel
theorem dX6_readOne_59 : decode cX6_readOne 59 = .ok (.goto 66, 3) := by decide +kernel
theorem dX6_readOne_62 : decode cX6_readOne 62 = .ok (.iload_n 2, 1) := by decide +kernel
theorem dX6_readOne_63 : decode cX6_readOne 63 = .ok (.bipush 45, 2) := by decide +kernel
theorem dX6_readOne_65 : decode cX6_readOne 65 = .ok (.if_icmp .ne 22, 3) := by decide +kernel
theorem dX6_readOne_68 : decode cX6_readOne 68 = .ok (.aload_n 0, 1) := by decide +kernel
theorem dX6_readOne_69 : decode cX6_readOne 69 = .ok (.iload_n 1, 1) := by decide +kernel
theorem dX6_readOne_70 : decode cX6_readOne 70 = .ok (.iconst 1, 1) := by decide +kernel
theorem dX6_readOne_71 : decode cX6_readOne 71 = .ok (.iadd, 1) := by decide +kernel
theorem dX6_readOne_72 : decode cX6_readOne 72 = .ok (.invokevirtual 137, 3) := by decide +kernel
theorem dX6_readOne_75 : decode cX6_readOne 75 = .ok (.aload_n 0, 1) := by decide +kernel
theorem dX6_readOne_76 : decode cX6_readOne 76 = .ok (.getfield 37, 3) := by decide +kernel
theorem dX6_readOne_79 : decode cX6_readOne 79 = .ok (.ldc 143, 2) := by decide +kernel
theorem dX6_readOne_81 : decode cX6_readOne 81 = .ok (.invokevirtual 124, 3) := by decide +kernel
theorem dX6_readOne_84 : decode cX6_readOne 84 = .ok (.goto 41, 3) := by decide +kernel
theorem dX6_readOne_87 : decode cX6_readOne 87 = .ok (.iload_n 2, 1) := by decide +kernel
theorem dX6_readOne_88 : decode cX6_readOne 88 = .ok (.sipush 1000, 3) := by decide +kernel
theorem dX6_readOne_91 : decode cX6_readOne 91 = .ok (.if_icmp .lt 18, 3) := by decide +kernel
theorem dX6_readOne_94 : decode cX6_readOne 94 = .ok (.aload_n 0, 1) := by decide +kernel
theorem dX6_readOne_95 : decode cX6_readOne 95 = .ok (.getfield 37, 3) := by decide +kernel
theorem dX6_readOne_98 : decode cX6_readOne 98 = .ok (.iload_n 2, 1) := by decide +kernel
theorem dX6_readOne_99 : decode cX6_readOne 99 = .ok (.sipush 1000, 3) := by decide +kernel
theorem dX6_readOne_102 : decode cX6_readOne 102 = .ok (.isub, 1) := by decide +kernel
theorem dX6_readOne_103 : decode cX6_readOne 103 = .ok (.invokevirtual 124, 3) := by decide +kernel
theorem dX6_readOne_106 : decode cX6_readOne 106 = .ok (.goto 19, 3) := by decide +kernel
theorem dX6_readOne_109 : decode cX6_readOne 109 = .ok (.aload_n 0, 1) := by decide +kernel
theorem dX6_readOne_110 : decode cX6_readOne 110 = .ok (.getfield 37, 3) := by decide +kernel
theorem dX6_readOne_113 : decode cX6_readOne 113 = .ok (.sipush 10000, 3) := by decide +kernel
theorem dX6_readOne_116 : decode cX6_readOne 116 = .ok (.iload_n 2, 1) := by decide +kernel
theorem dX6_readOne_117 : decode cX6_readOne 117 = .ok (.iadd, 1) := by decide +kernel
theorem dX6_readOne_118 : decode cX6_readOne 118 = .ok (.sipush 207, 3) := by decide +kernel
theorem dX6_readOne_121 : decode cX6_readOne 121 = .ok (.isub, 1) := by decide +kernel
theorem dX6_readOne_122 : decode cX6_readOne 122 = .ok (.invokevirtual 124, 3) := by decide +kernel
theorem dX6_readOne_125 : decode cX6_readOne 125 = .ok (.return_, 1) := by decide +kernel
theorem dX6_faultOfOne_0 : decode cX6_faultOfOne 0 = .ok (.aload_n 0, 1) := by decide +kernel
theorem dX6_faultOfOne_1 : decode cX6_faultOfOne 1 = .ok (.getfield 49, 3) := by decide +kernel
theorem dX6_faultOfOne_4 : decode cX6_faultOfOne 4 = .ok (.sipush 1000, 3) := by decide +kernel
theorem dX6_faultOfOne_7 : decode cX6_faultOfOne 7 = .ok (.if_icmp .lt 23, 3) := by decide +kernel
theorem dX6_faultOfOne_10 : decode cX6_faultOfOne 10 = .ok (.aload_n 0, 1) := by decide +kernel
theorem dX6_faultOfOne_11 : decode cX6_faultOfOne 11 = .ok (.getfield 49, 3) := by decide +kernel
theorem dX6_faultOfOne_14 : decode cX6_faultOfOne 14 = .ok (.sipush 1000, 3) := by decide +kernel
theorem dX6_faultOfOne_17 : decode cX6_faultOfOne 17 = .ok (.isub, 1) := by decide +kernel
theorem dX6_faultOfOne_18 : decode cX6_faultOfOne 18 = .ok (.sipush 9999, 3) := by decide +kernel
theorem dX6_faultOfOne_21 : decode cX6_faultOfOne 21 = .ok (.if_icmp .le 7, 3) := by decide +kernel
theorem dX6_faultOfOne_24 : decode cX6_faultOfOne 24 = .ok (.iconst 2, 1) := by decide +kernel
theorem dX6_faultOfOne_25 : decode cX6_faultOfOne 25 = .ok (.goto 4, 3) := by decide +kernel
theorem dX6_faultOfOne_28 : decode cX6_faultOfOne 28 = .ok (.iconst 0, 1) := by decide +kernel
theorem dX6_faultOfOne_29 : decode cX6_faultOfOne 29 = .ok (.ireturn, 1) := by decide +kernel
theorem dX6_faultOfOne_30 : decode cX6_faultOfOne 30 = .ok (.aload_n 0, 1) := by decide +kernel
theorem dX6_faultOfOne_31 : decode cX6_faultOfOne 31 = .ok (.getfield 49, 3) := by decide +kernel
theorem dX6_faultOfOne_34 : decode cX6_faultOfOne 34 = .ok (.bipush 40, 2) := by decide +kernel
theorem dX6_faultOfOne_36 : decode cX6_faultOfOne 36 = .ok (.if_icmp .eq 12, 3) := by decide +kernel
theorem dX6_faultOfOne_39 : decode cX6_faultOfOne 39 = .ok (.aload_n 0, 1) := by decide +kernel
theorem dX6_faultOfOne_40 : decode cX6_faultOfOne 40 = .ok (.getfield 49, 3) := by decide +kernel
theorem dX6_faultOfOne_43 : decode cX6_faultOfOne 43 = .ok (.bipush 45, 2) := by decide +kernel
theorem dX6_faultOfOne_45 : decode cX6_faultOfOne 45 = .ok (.if_icmp .ne 15, 3) := by decide +kernel
theorem dX6_faultOfOne_48 : decode cX6_faultOfOne 48 = .ok (.iload_n 1, 1) := by decide +kernel
theorem dX6_faultOfOne_49 : decode cX6_faultOfOne 49 = .ok (.bipush 8, 2) := by decide +kernel
theorem dX6_faultOfOne_51 : decode cX6_faultOfOne 51 = .ok (.if_icmp .lt 7, 3) := by decide +kernel
theorem dX6_faultOfOne_54 : decode cX6_faultOfOne 54 = .ok (.iconst 3, 1) := by decide +kernel
theorem dX6_faultOfOne_55 : decode cX6_faultOfOne 55 = .ok (.goto 4, 3) := by decide +kernel
theorem dX6_faultOfOne_58 : decode cX6_faultOfOne 58 = .ok (.iconst 0, 1) := by decide +kernel
theorem dX6_faultOfOne_59 : decode cX6_faultOfOne 59 = .ok (.ireturn, 1) := by decide +kernel
theorem dX6_faultOfOne_60 : decode cX6_faultOfOne 60 = .ok (.aload_n 0, 1) := by decide +kernel
theorem dX6_faultOfOne_61 : decode cX6_faultOfOne 61 = .ok (.getfield 49, 3) := by decide +kernel
theorem dX6_faultOfOne_64 : decode cX6_faultOfOne 64 = .ok (.sipush 207, 3) := by decide +kernel
theorem dX6_faultOfOne_67 : decode cX6_faultOfOne 67 = .ok (.isub, 1) := by decide +kernel
theorem dX6_faultOfOne_68 : decode cX6_faultOfOne 68 = .ok (.istore_n 2, 1) := by decide +kernel
theorem dX6_faultOfOne_69 : decode cX6_faultOfOne 69 = .ok (.iload_n 2, 1) := by decide +kernel
theorem dX6_faultOfOne_70 : decode cX6_faultOfOne 70 = .ok (.ifCond .ge 5, 3) := by decide +kernel
theorem dX6_faultOfOne_73 : decode cX6_faultOfOne 73 = .ok (.iconst 1, 1) := by decide +kernel
theorem dX6_faultOfOne_74 : decode cX6_faultOfOne 74 = .ok (.ireturn, 1) := by decide +kernel
theorem dX6_faultOfOne_75 : decode cX6_faultOfOne 75 = .ok (.iload_n 2, 1) := by decide +kernel
theorem dX6_faultOfOne_76 : decode cX6_faultOfOne 76 = .ok (.iconst 5, 1) := by decide +kernel
theorem dX6_faultOfOne_77 : decode cX6_faultOfOne 77 = .ok (.if_icmp .lt 7, 3) := by decide +kernel
theorem dX6_faultOfOne_80 : decode cX6_faultOfOne 80 = .ok (.iconst 1, 1) := by decide +kernel
theorem dX6_faultOfOne_81 : decode cX6_faultOfOne 81 = .ok (.goto 4, 3) := by decide +kernel
theorem dX6_faultOfOne_84 : decode cX6_faultOfOne 84 = .ok (.iconst 0, 1) := by decide +kernel
theorem dX6_faultOfOne_85 : decode cX6_faultOfOne 85 = .ok (.istore_n 3, 1) := by decide +kernel
theorem dX6_faultOfOne_86 : decode cX6_faultOfOne 86 = .ok (.iload_n 2, 1) := by decide +kernel
theorem dX6_faultOfOne_87 : decode cX6_faultOfOne 87 = .ok (.iconst 2, 1) := by decide +kernel
theorem dX6_faultOfOne_88 : decode cX6_faultOfOne 88 = .ok (.if_icmp .gt 7, 3) := by decide +kernel
theorem dX6_faultOfOne_91 : decode cX6_faultOfOne 91 = .ok (.iconst 1, 1) := by decide +kernel
theorem dX6_faultOfOne_92 : decode cX6_faultOfOne 92 = .ok (.goto 4, 3) := by decide +kernel
theorem dX6_faultOfOne_95 : decode cX6_faultOfOne 95 = .ok (.iconst 0, 1) := by decide +kernel
theorem dX6_faultOfOne_96 : decode cX6_faultOfOne 96 = .ok (.istore 4, 2) := by decide +kernel
theorem dX6_faultOfOne_98 : decode cX6_faultOfOne 98 = .ok (.iload_n 3, 1) := by decide +kernel
theorem dX6_faultOfOne_99 : decode cX6_faultOfOne 99 = .ok (.ifCond .eq 11, 3) := by decide +kernel
theorem dX6_faultOfOne_102 : decode cX6_faultOfOne 102 = .ok (.aload_n 0, 1) := by decide +kernel
theorem dX6_faultOfOne_103 : decode cX6_faultOfOne 103 = .ok (.getfield 95, 3) := by decide +kernel
theorem dX6_faultOfOne_106 : decode cX6_faultOfOne 106 = .ok (.iconst 3, 1) := by decide +kernel
theorem dX6_faultOfOne_107 : decode cX6_faultOfOne 107 = .ok (.if_icmp .ne 16, 3) := by decide +kernel
theorem dX6_faultOfOne_110 : decode cX6_faultOfOne 110 = .ok (.iload 4, 2) := by decide +kernel
theorem dX6_faultOfOne_112 : decode cX6_faultOfOne 112 = .ok (.ifCond .eq 15, 3) := by decide +kernel
theorem dX6_faultOfOne_115 : decode cX6_faultOfOne 115 = .ok (.aload_n 0, 1) := by decide +kernel
theorem dX6_faultOfOne_116 : decode cX6_faultOfOne 116 = .ok (.getfield 95, 3) := by decide +kernel
theorem dX6_faultOfOne_119 : decode cX6_faultOfOne 119 = .ok (.iconst 2, 1) := by decide +kernel
theorem dX6_faultOfOne_120 : decode cX6_faultOfOne 120 = .ok (.if_icmp .ne 7, 3) := by decide +kernel
theorem dX6_faultOfOne_123 : decode cX6_faultOfOne 123 = .ok (.iconst 5, 1) := by decide +kernel
theorem dX6_faultOfOne_124 : decode cX6_faultOfOne 124 = .ok (.goto 4, 3) := by decide +kernel
theorem dX6_faultOfOne_127 : decode cX6_faultOfOne 127 = .ok (.iconst 0, 1) := by decide +kernel
theorem dX6_faultOfOne_128 : decode cX6_faultOfOne 128 = .ok (.ireturn, 1) := by decide +kernel
theorem dX7_init_0 : decode cX7_init 0 = .ok (.aload_n 0, 1) := by decide +kernel
theorem dX7_init_1 : decode cX7_init 1 = .ok (.invokespecial 3, 3) := by decide +kernel
theorem dX7_init_4 : decode cX7_init 4 = .ok (.aload_n 0, 1) := by decide +kernel
theorem dX7_init_5 : decode cX7_init 5 = .ok (.bipush 20, 2) := by decide +kernel
theorem dX7_init_7 : decode cX7_init 7 = .ok (.newarray .int, 2) := by decide +kernel
theorem dX7_init_9 : decode cX7_init 9 = .ok (.putfield 11, 3) := by decide +kernel
theorem dX7_init_12 : decode cX7_init 12 = .ok (.aload_n 0, 1) := by decide +kernel
theorem dX7_init_13 : decode cX7_init 13 = .ok (.bipush 20, 2) := by decide +kernel
theorem dX7_init_15 : decode cX7_init 15 = .ok (.newarray .int, 2) := by decide +kernel
theorem dX7_init_17 : decode cX7_init 17 = .ok (.putfield 15, 3) := by decide +kernel
theorem dX7_init_20 : decode cX7_init 20 = .ok (.aload_n 0, 1) := by decide +kernel
theorem dX7_init_21 : decode cX7_init 21 = .ok (.bipush 20, 2) := by decide +kernel
theorem dX7_init_23 : decode cX7_init 23 = .ok (.newarray .int, 2) := by decide +kernel
theorem dX7_init_25 : decode cX7_init 25 = .ok (.putfield 18, 3) := by decide +kernel
theorem dX7_init_28 : decode cX7_init 28 = .ok (.aload_n 0, 1) := by decide +kernel
theorem dX7_init_29 : decode cX7_init 29 = .ok (.bipush 20, 2) := by decide +kernel
theorem dX7_init_31 : decode cX7_init 31 = .ok (.newarray .int, 2) := by decide +kernel
theorem dX7_init_33 : decode cX7_init 33 = .ok (.putfield 21, 3) := by decide +kernel
theorem dX7_init_36 : decode cX7_init 36 = .ok (.aload_n 0, 1) := by decide +kernel
theorem dX7_init_37 : decode cX7_init 37 = .ok (.bipush 20, 2) := by decide +kernel
theorem dX7_init_39 : decode cX7_init 39 = .ok (.newarray .int, 2) := by decide +kernel
theorem dX7_init_41 : decode cX7_init 41 = .ok (.putfield 24, 3) := by decide +kernel
theorem dX7_init_44 : decode cX7_init 44 = .ok (.aload_n 0, 1) := by decide +kernel
theorem dX7_init_45 : decode cX7_init 45 = .ok (.bipush 60, 2) := by decide +kernel
theorem dX7_init_47 : decode cX7_init 47 = .ok (.newarray .int, 2) := by decide +kernel
theorem dX7_init_49 : decode cX7_init 49 = .ok (.putfield 27, 3) := by decide +kernel
theorem dX7_init_52 : decode cX7_init 52 = .ok (.aload_n 0, 1) := by decide +kernel
theorem dX7_init_53 : decode cX7_init 53 = .ok (.bipush 60, 2) := by decide +kernel
theorem dX7_init_55 : decode cX7_init 55 = .ok (.newarray .int, 2) := by decide +kernel
theorem dX7_init_57 : decode cX7_init 57 = .ok (.putfield 30, 3) := by decide +kernel
theorem dX7_init_60 : decode cX7_init 60 = .ok (.aload_n 0, 1) := by decide +kernel
theorem dX7_init_61 : decode cX7_init 61 = .ok (.bipush 60, 2) := by decide +kernel
theorem dX7_init_63 : decode cX7_init 63 = .ok (.newarray .int, 2) := by decide +kernel
theorem dX7_init_65 : decode cX7_init 65 = .ok (.putfield 33, 3) := by decide +kernel
theorem dX7_init_68 : decode cX7_init 68 = .ok (.aload_n 0, 1) := by decide +kernel
theorem dX7_init_69 : decode cX7_init 69 = .ok (.bipush 60, 2) := by decide +kernel
theorem dX7_init_71 : decode cX7_init 71 = .ok (.newarray .int, 2) := by decide +kernel
theorem dX7_init_73 : decode cX7_init 73 = .ok (.putfield 36, 3) := by decide +kernel
theorem dX7_init_76 : decode cX7_init 76 = .ok (.aload_n 0, 1) := by decide +kernel
theorem dX7_init_77 : decode cX7_init 77 = .ok (.bipush 60, 2) := by decide +kernel
theorem dX7_init_79 : decode cX7_init 79 = .ok (.newarray .int, 2) := by decide +kernel
theorem dX7_init_81 : decode cX7_init 81 = .ok (.putfield 39, 3) := by decide +kernel
theorem dX7_init_84 : decode cX7_init 84 = .ok (.aload_n 0, 1) := by decide +kernel
theorem dX7_init_85 : decode cX7_init 85 = .ok (.bipush 10, 2) := by decide +kernel
theorem dX7_init_87 : decode cX7_init 87 = .ok (.newarray .int, 2) := by decide +kernel
theorem dX7_init_89 : decode cX7_init 89 = .ok (.putfield 42, 3) := by decide +kernel
theorem dX7_init_92 : decode cX7_init 92 = .ok (.return_, 1) := by decide +kernel
theorem dX7_take_0 : decode cX7_take 0 = .ok (.aload_n 0, 1) := by decide +kernel
theorem dX7_take_1 : decode cX7_take 1 = .ok (.aload_n 1, 1) := by decide +kernel
theorem dX7_take_2 : decode cX7_take 2 = .ok (.getfield 45, 3) := by decide +kernel
theorem dX7_take_5 : decode cX7_take 5 = .ok (.putfield 45, 3) := by decide +kernel
theorem dX7_take_8 : decode cX7_take 8 = .ok (.aload_n 1, 1) := by decide +kernel
theorem dX7_take_9 : decode cX7_take 9 = .ok (.getfield 11, 3) := by decide +kernel
theorem dX7_take_12 : decode cX7_take 12 = .ok (.iconst 0, 1) := by decide +kernel
theorem dX7_take_13 : decode cX7_take 13 = .ok (.aload_n 0, 1) := by decide +kernel
theorem dX7_take_14 : decode cX7_take 14 = .ok (.getfield 11, 3) := by decide +kernel
theorem dX7_take_17 : decode cX7_take 17 = .ok (.iconst 0, 1) := by decide +kernel
theorem dX7_take_18 : decode cX7_take 18 = .ok (.bipush 20, 2) := by decide +kernel
theorem dX7_take_20 : decode cX7_take 20 = .ok (.invokestatic 49, 3) := by decide +kernel
theorem dX7_take_23 : decode cX7_take 23 = .ok (.aload_n 1, 1) := by decide +kernel
theorem dX7_take_24 : decode cX7_take 24 = .ok (.getfield 15, 3) := by decide +kernel
theorem dX7_take_27 : decode cX7_take 27 = .ok (.iconst 0, 1) := by decide +kernel
theorem dX7_take_28 : decode cX7_take 28 = .ok (.aload_n 0, 1) := by decide +kernel
theorem dX7_take_29 : decode cX7_take 29 = .ok (.getfield 15, 3) := by decide +kernel
theorem dX7_take_32 : decode cX7_take 32 = .ok (.iconst 0, 1) := by decide +kernel
theorem dX7_take_33 : decode cX7_take 33 = .ok (.bipush 20, 2) := by decide +kernel
theorem dX7_take_35 : decode cX7_take 35 = .ok (.invokestatic 49, 3) := by decide +kernel
theorem dX7_take_38 : decode cX7_take 38 = .ok (.aload_n 1, 1) := by decide +kernel
theorem dX7_take_39 : decode cX7_take 39 = .ok (.getfield 18, 3) := by decide +kernel
theorem dX7_take_42 : decode cX7_take 42 = .ok (.iconst 0, 1) := by decide +kernel
theorem dX7_take_43 : decode cX7_take 43 = .ok (.aload_n 0, 1) := by decide +kernel
theorem dX7_take_44 : decode cX7_take 44 = .ok (.getfield 18, 3) := by decide +kernel
theorem dX7_take_47 : decode cX7_take 47 = .ok (.iconst 0, 1) := by decide +kernel
theorem dX7_take_48 : decode cX7_take 48 = .ok (.bipush 20, 2) := by decide +kernel
theorem dX7_take_50 : decode cX7_take 50 = .ok (.invokestatic 49, 3) := by decide +kernel
theorem dX7_take_53 : decode cX7_take 53 = .ok (.aload_n 1, 1) := by decide +kernel
theorem dX7_take_54 : decode cX7_take 54 = .ok (.getfield 21, 3) := by decide +kernel
theorem dX7_take_57 : decode cX7_take 57 = .ok (.iconst 0, 1) := by decide +kernel
theorem dX7_take_58 : decode cX7_take 58 = .ok (.aload_n 0, 1) := by decide +kernel
theorem dX7_take_59 : decode cX7_take 59 = .ok (.getfield 21, 3) := by decide +kernel
theorem dX7_take_62 : decode cX7_take 62 = .ok (.iconst 0, 1) := by decide +kernel
theorem dX7_take_63 : decode cX7_take 63 = .ok (.bipush 20, 2) := by decide +kernel
theorem dX7_take_65 : decode cX7_take 65 = .ok (.invokestatic 49, 3) := by decide +kernel
theorem dX7_take_68 : decode cX7_take 68 = .ok (.aload_n 1, 1) := by decide +kernel
theorem dX7_take_69 : decode cX7_take 69 = .ok (.getfield 24, 3) := by decide +kernel
theorem dX7_take_72 : decode cX7_take 72 = .ok (.iconst 0, 1) := by decide +kernel
theorem dX7_take_73 : decode cX7_take 73 = .ok (.aload_n 0, 1) := by decide +kernel
theorem dX7_take_74 : decode cX7_take 74 = .ok (.getfield 24, 3) := by decide +kernel
theorem dX7_take_77 : decode cX7_take 77 = .ok (.iconst 0, 1) := by decide +kernel
theorem dX7_take_78 : decode cX7_take 78 = .ok (.bipush 20, 2) := by decide +kernel
theorem dX7_take_80 : decode cX7_take 80 = .ok (.invokestatic 49, 3) := by decide +kernel
theorem dX7_take_83 : decode cX7_take 83 = .ok (.aload_n 0, 1) := by decide +kernel
theorem dX7_take_84 : decode cX7_take 84 = .ok (.aload_n 1, 1) := by decide +kernel
theorem dX7_take_85 : decode cX7_take 85 = .ok (.getfield 55, 3) := by decide +kernel
theorem dX7_take_88 : decode cX7_take 88 = .ok (.putfield 55, 3) := by decide +kernel
theorem dX7_take_91 : decode cX7_take 91 = .ok (.aload_n 1, 1) := by decide +kernel
theorem dX7_take_92 : decode cX7_take 92 = .ok (.getfield 27, 3) := by decide +kernel
theorem dX7_take_95 : decode cX7_take 95 = .ok (.iconst 0, 1) := by decide +kernel
theorem dX7_take_96 : decode cX7_take 96 = .ok (.aload_n 0, 1) := by decide +kernel
theorem dX7_take_97 : decode cX7_take 97 = .ok (.getfield 27, 3) := by decide +kernel
theorem dX7_take_100 : decode cX7_take 100 = .ok (.iconst 0, 1) := by decide +kernel
theorem dX7_take_101 : decode cX7_take 101 = .ok (.bipush 60, 2) := by decide +kernel
theorem dX7_take_103 : decode cX7_take 103 = .ok (.invokestatic 49, 3) := by decide +kernel
theorem dX7_take_106 : decode cX7_take 106 = .ok (.aload_n 1, 1) := by decide +kernel
theorem dX7_take_107 : decode cX7_take 107 = .ok (.getfield 30, 3) := by decide +kernel
theorem dX7_take_110 : decode cX7_take 110 = .ok (.iconst 0, 1) := by decide +kernel
theorem dX7_take_111 : decode cX7_take 111 = .ok (.aload_n 0, 1) := by decide +kernel
theorem dX7_take_112 : decode cX7_take 112 = .ok (.getfield 30, 3) := by decide +kernel
theorem dX7_take_115 : decode cX7_take 115 = .ok (.iconst 0, 1) := by decide +kernel
theorem dX7_take_116 : decode cX7_take 116 = .ok (.bipush 60, 2) := by decide +kernel
theorem dX7_take_118 : decode cX7_take 118 = .ok (.invokestatic 49, 3) := by decide +kernel
theorem dX7_take_121 : decode cX7_take 121 = .ok (.aload_n 1, 1) := by decide +kernel
theorem dX7_take_122 : decode cX7_take 122 = .ok (.getfield 33, 3) := by decide +kernel
theorem dX7_take_125 : decode cX7_take 125 = .ok (.iconst 0, 1) := by decide +kernel
theorem dX7_take_126 : decode cX7_take 126 = .ok (.aload_n 0, 1) := by decide +kernel
theorem dX7_take_127 : decode cX7_take 127 = .ok (.getfield 33, 3) := by decide +kernel
theorem dX7_take_130 : decode cX7_take 130 = .ok (.iconst 0, 1) := by decide +kernel
theorem dX7_take_131 : decode cX7_take 131 = .ok (.bipush 60, 2) := by decide +kernel
theorem dX7_take_133 : decode cX7_take 133 = .ok (.invokestatic 49, 3) := by decide +kernel
theorem dX7_take_136 : decode cX7_take 136 = .ok (.aload_n 1, 1) := by decide +kernel
theorem dX7_take_137 : decode cX7_take 137 = .ok (.getfield 36, 3) := by decide +kernel
theorem dX7_take_140 : decode cX7_take 140 = .ok (.iconst 0, 1) := by decide +kernel
theorem dX7_take_141 : decode cX7_take 141 = .ok (.aload_n 0, 1) := by decide +kernel
theorem dX7_take_142 : decode cX7_take 142 = .ok (.getfield 36, 3) := by decide +kernel
theorem dX7_take_145 : decode cX7_take 145 = .ok (.iconst 0, 1) := by decide +kernel
theorem dX7_take_146 : decode cX7_take 146 = .ok (.bipush 60, 2) := by decide +kernel
theorem dX7_take_148 : decode cX7_take 148 = .ok (.invokestatic 49, 3) := by decide +kernel
theorem dX7_take_151 : decode cX7_take 151 = .ok (.aload_n 1, 1) := by decide +kernel
theorem dX7_take_152 : decode cX7_take 152 = .ok (.getfield 39, 3) := by decide +kernel
theorem dX7_take_155 : decode cX7_take 155 = .ok (.iconst 0, 1) := by decide +kernel
theorem dX7_take_156 : decode cX7_take 156 = .ok (.aload_n 0, 1) := by decide +kernel
theorem dX7_take_157 : decode cX7_take 157 = .ok (.getfield 39, 3) := by decide +kernel
theorem dX7_take_160 : decode cX7_take 160 = .ok (.iconst 0, 1) := by decide +kernel
theorem dX7_take_161 : decode cX7_take 161 = .ok (.bipush 60, 2) := by decide +kernel
theorem dX7_take_163 : decode cX7_take 163 = .ok (.invokestatic 49, 3) := by decide +kernel
theorem dX7_take_166 : decode cX7_take 166 = .ok (.aload_n 1, 1) := by decide +kernel
theorem dX7_take_167 : decode cX7_take 167 = .ok (.getfield 42, 3) := by decide +kernel
theorem dX7_take_170 : decode cX7_take 170 = .ok (.iconst 0, 1) := by decide +kernel
theorem dX7_take_171 : decode cX7_take 171 = .ok (.aload_n 0, 1) := by decide +kernel
theorem dX7_take_172 : decode cX7_take 172 = .ok (.getfield 42, 3) := by decide +kernel
theorem dX7_take_175 : decode cX7_take 175 = .ok (.iconst 0, 1) := by decide +kernel
theorem dX7_take_176 : decode cX7_take 176 = .ok (.bipush 10, 2) := by decide +kernel
theorem dX7_take_178 : decode cX7_take 178 = .ok (.invokestatic 49, 3) := by decide +kernel
theorem dX7_take_181 : decode cX7_take 181 = .ok (.aload_n 0, 1) := by decide +kernel
theorem dX7_take_182 : decode cX7_take 182 = .ok (.aload_n 1, 1) := by decide +kernel
theorem dX7_take_183 : decode cX7_take 183 = .ok (.getfield 58, 3) := by decide +kernel
theorem dX7_take_186 : decode cX7_take 186 = .ok (.putfield 58, 3) := by decide +kernel
theorem dX7_take_189 : decode cX7_take 189 = .ok (.return_, 1) := by decide +kernel
theorem dX7_hasHouse_0 : decode cX7_hasHouse 0 = .ok (.iload_n 1, 1) := by decide +kernel
theorem dX7_hasHouse_1 : decode cX7_hasHouse 1 = .ok (.ifCond .lt 15, 3) := by decide +kernel
theorem dX7_hasHouse_4 : decode cX7_hasHouse 4 = .ok (.iload_n 1, 1) := by decide +kernel
theorem dX7_hasHouse_5 : decode cX7_hasHouse 5 = .ok (.aload_n 0, 1) := by decide +kernel
theorem dX7_hasHouse_6 : decode cX7_hasHouse 6 = .ok (.getfield 45, 3) := by decide +kernel
theorem dX7_hasHouse_9 : decode cX7_hasHouse 9 = .ok (.if_icmp .ge 7, 3) := by decide +kernel
theorem dX7_hasHouse_12 : decode cX7_hasHouse 12 = .ok (.iconst 1, 1) := by decide +kernel
theorem dX7_hasHouse_13 : decode cX7_hasHouse 13 = .ok (.goto 4, 3) := by decide +kernel
theorem dX7_hasHouse_16 : decode cX7_hasHouse 16 = .ok (.iconst 0, 1) := by decide +kernel
theorem dX7_hasHouse_17 : decode cX7_hasHouse 17 = .ok (.ireturn, 1) := by decide +kernel
theorem dX7_hasPerson_0 : decode cX7_hasPerson 0 = .ok (.iload_n 1, 1) := by decide +kernel
theorem dX7_hasPerson_1 : decode cX7_hasPerson 1 = .ok (.ifCond .lt 15, 3) := by decide +kernel
theorem dX7_hasPerson_4 : decode cX7_hasPerson 4 = .ok (.iload_n 1, 1) := by decide +kernel
theorem dX7_hasPerson_5 : decode cX7_hasPerson 5 = .ok (.aload_n 0, 1) := by decide +kernel
theorem dX7_hasPerson_6 : decode cX7_hasPerson 6 = .ok (.getfield 55, 3) := by decide +kernel
theorem dX7_hasPerson_9 : decode cX7_hasPerson 9 = .ok (.if_icmp .ge 7, 3) := by decide +kernel
theorem dX7_hasPerson_12 : decode cX7_hasPerson 12 = .ok (.iconst 1, 1) := by decide +kernel
theorem dX7_hasPerson_13 : decode cX7_hasPerson 13 = .ok (.goto 4, 3) := by decide +kernel
theorem dX7_hasPerson_16 : decode cX7_hasPerson 16 = .ok (.iconst 0, 1) := by decide +kernel
theorem dX7_hasPerson_17 : decode cX7_hasPerson 17 = .ok (.ireturn, 1) := by decide +kernel
theorem dX7_addHouse_0 : decode cX7_addHouse 0 = .ok (.aload_n 0, 1) := by decide +kernel
theorem dX7_addHouse_1 : decode cX7_addHouse 1 = .ok (.getfield 45, 3) := by decide +kernel
theorem dX7_addHouse_4 : decode cX7_addHouse 4 = .ok (.istore 4, 2) := by decide +kernel
theorem dX7_addHouse_6 : decode cX7_addHouse 6 = .ok (.aload_n 0, 1) := by decide +kernel
theorem dX7_addHouse_7 : decode cX7_addHouse 7 = .ok (.getfield 11, 3) := by decide +kernel
theorem dX7_addHouse_10 : decode cX7_addHouse 10 = .ok (.iload 4, 2) := by decide +kernel
theorem dX7_addHouse_12 : decode cX7_addHouse 12 = .ok (.iload_n 1, 1) := by decide +kernel
theorem dX7_addHouse_13 : decode cX7_addHouse 13 = .ok (.iastore, 1) := by decide +kernel
theorem dX7_addHouse_14 : decode cX7_addHouse 14 = .ok (.aload_n 0, 1) := by decide +kernel
theorem dX7_addHouse_15 : decode cX7_addHouse 15 = .ok (.getfield 15, 3) := by decide +kernel
theorem dX7_addHouse_18 : decode cX7_addHouse 18 = .ok (.iload 4, 2) := by decide +kernel
theorem dX7_addHouse_20 : decode cX7_addHouse 20 = .ok (.iload_n 2, 1) := by decide +kernel
theorem dX7_addHouse_21 : decode cX7_addHouse 21 = .ok (.iastore, 1) := by decide +kernel
theorem dX7_addHouse_22 : decode cX7_addHouse 22 = .ok (.aload_n 0, 1) := by decide +kernel
theorem dX7_addHouse_23 : decode cX7_addHouse 23 = .ok (.getfield 18, 3) := by decide +kernel
theorem dX7_addHouse_26 : decode cX7_addHouse 26 = .ok (.iload 4, 2) := by decide +kernel
theorem dX7_addHouse_28 : decode cX7_addHouse 28 = .ok (.iload_n 3, 1) := by decide +kernel
theorem dX7_addHouse_29 : decode cX7_addHouse 29 = .ok (.iastore, 1) := by decide +kernel
theorem dX7_addHouse_30 : decode cX7_addHouse 30 = .ok (.aload_n 0, 1) := by decide +kernel
theorem dX7_addHouse_31 : decode cX7_addHouse 31 = .ok (.getfield 21, 3) := by decide +kernel
theorem dX7_addHouse_34 : decode cX7_addHouse 34 = .ok (.iload 4, 2) := by decide +kernel
theorem dX7_addHouse_36 : decode cX7_addHouse 36 = .ok (.iconst 0, 1) := by decide +kernel
theorem dX7_addHouse_37 : decode cX7_addHouse 37 = .ok (.iastore, 1) := by decide +kernel
theorem dX7_addHouse_38 : decode cX7_addHouse 38 = .ok (.aload_n 0, 1) := by decide +kernel
theorem dX7_addHouse_39 : decode cX7_addHouse 39 = .ok (.getfield 24, 3) := by decide +kernel
theorem dX7_addHouse_42 : decode cX7_addHouse 42 = .ok (.iload 4, 2) := by decide +kernel
theorem dX7_addHouse_44 : decode cX7_addHouse 44 = .ok (.iconst (-1), 1) := by decide +kernel
theorem dX7_addHouse_45 : decode cX7_addHouse 45 = .ok (.iastore, 1) := by decide +kernel
theorem dX7_addHouse_46 : decode cX7_addHouse 46 = .ok (.aload_n 0, 1) := by decide +kernel
theorem dX7_addHouse_47 : decode cX7_addHouse 47 = .ok (.dup, 1) := by decide +kernel
theorem dX7_addHouse_48 : decode cX7_addHouse 48 = .ok (.getfield 45, 3) := by decide +kernel
theorem dX7_addHouse_51 : decode cX7_addHouse 51 = .ok (.iconst 1, 1) := by decide +kernel
theorem dX7_addHouse_52 : decode cX7_addHouse 52 = .ok (.iadd, 1) := by decide +kernel
theorem dX7_addHouse_53 : decode cX7_addHouse 53 = .ok (.putfield 45, 3) := by decide +kernel
theorem dX7_addHouse_56 : decode cX7_addHouse 56 = .ok (.iload 4, 2) := by decide +kernel
theorem dX7_addHouse_58 : decode cX7_addHouse 58 = .ok (.ireturn, 1) := by decide +kernel
theorem dX7_addPerson_0 : decode cX7_addPerson 0 = .ok (.aload_n 0, 1) := by decide +kernel
theorem dX7_addPerson_1 : decode cX7_addPerson 1 = .ok (.getfield 55, 3) := by decide +kernel
theorem dX7_addPerson_4 : decode cX7_addPerson 4 = .ok (.istore 4, 2) := by decide +kernel
theorem dX7_addPerson_6 : decode cX7_addPerson 6 = .ok (.aload_n 0, 1) := by decide +kernel
theorem dX7_addPerson_7 : decode cX7_addPerson 7 = .ok (.getfield 27, 3) := by decide +kernel
theorem dX7_addPerson_10 : decode cX7_addPerson 10 = .ok (.iload 4, 2) := by decide +kernel
theorem dX7_addPerson_12 : decode cX7_addPerson 12 = .ok (.iload_n 1, 1) := by decide +kernel
theorem dX7_addPerson_13 : decode cX7_addPerson 13 = .ok (.iastore, 1) := by decide +kernel
theorem dX7_addPerson_14 : decode cX7_addPerson 14 = .ok (.aload_n 0, 1) := by decide +kernel
theorem dX7_addPerson_15 : decode cX7_addPerson 15 = .ok (.getfield 30, 3) := by decide +kernel
theorem dX7_addPerson_18 : decode cX7_addPerson 18 = .ok (.iload 4, 2) := by decide +kernel
theorem dX7_addPerson_20 : decode cX7_addPerson 20 = .ok (.iload_n 2, 1) := by decide +kernel
theorem dX7_addPerson_21 : decode cX7_addPerson 21 = .ok (.iastore, 1) := by decide +kernel
theorem dX7_addPerson_22 : decode cX7_addPerson 22 = .ok (.aload_n 0, 1) := by decide +kernel
theorem dX7_addPerson_23 : decode cX7_addPerson 23 = .ok (.getfield 33, 3) := by decide +kernel
theorem dX7_addPerson_26 : decode cX7_addPerson 26 = .ok (.iload 4, 2) := by decide +kernel
theorem dX7_addPerson_28 : decode cX7_addPerson 28 = .ok (.iload_n 3, 1) := by decide +kernel
theorem dX7_addPerson_29 : decode cX7_addPerson 29 = .ok (.iastore, 1) := by decide +kernel
theorem dX7_addPerson_30 : decode cX7_addPerson 30 = .ok (.aload_n 0, 1) := by decide +kernel
theorem dX7_addPerson_31 : decode cX7_addPerson 31 = .ok (.getfield 36, 3) := by decide +kernel
theorem dX7_addPerson_34 : decode cX7_addPerson 34 = .ok (.iload 4, 2) := by decide +kernel
theorem dX7_addPerson_36 : decode cX7_addPerson 36 = .ok (.iconst 0, 1) := by decide +kernel
theorem dX7_addPerson_37 : decode cX7_addPerson 37 = .ok (.iastore, 1) := by decide +kernel
theorem dX7_addPerson_38 : decode cX7_addPerson 38 = .ok (.aload_n 0, 1) := by decide +kernel
theorem dX7_addPerson_39 : decode cX7_addPerson 39 = .ok (.getfield 39, 3) := by decide +kernel
theorem dX7_addPerson_42 : decode cX7_addPerson 42 = .ok (.iload 4, 2) := by decide +kernel
theorem dX7_addPerson_44 : decode cX7_addPerson 44 = .ok (.iconst (-1), 1) := by decide +kernel
theorem dX7_addPerson_45 : decode cX7_addPerson 45 = .ok (.iastore, 1) := by decide +kernel
theorem dX7_addPerson_46 : decode cX7_addPerson 46 = .ok (.aload_n 0, 1) := by decide +kernel
theorem dX7_addPerson_47 : decode cX7_addPerson 47 = .ok (.dup, 1) := by decide +kernel
theorem dX7_addPerson_48 : decode cX7_addPerson 48 = .ok (.getfield 55, 3) := by decide +kernel
theorem dX7_addPerson_51 : decode cX7_addPerson 51 = .ok (.iconst 1, 1) := by decide +kernel
theorem dX7_addPerson_52 : decode cX7_addPerson 52 = .ok (.iadd, 1) := by decide +kernel
theorem dX7_addPerson_53 : decode cX7_addPerson 53 = .ok (.putfield 55, 3) := by decide +kernel
theorem dX7_addPerson_56 : decode cX7_addPerson 56 = .ok (.iload 4, 2) := by decide +kernel
theorem dX7_addPerson_58 : decode cX7_addPerson 58 = .ok (.ireturn, 1) := by decide +kernel
theorem dX7_isThere_0 : decode cX7_isThere 0 = .ok (.aload_n 0, 1) := by decide +kernel
theorem dX7_isThere_1 : decode cX7_isThere 1 = .ok (.getfield 39, 3) := by decide +kernel
theorem dX7_isThere_4 : decode cX7_isThere 4 = .ok (.iload_n 1, 1) := by decide +kernel
theorem dX7_isThere_5 : decode cX7_isThere 5 = .ok (.iaload, 1) := by decide +kernel
theorem dX7_isThere_6 : decode cX7_isThere 6 = .ok (.iconst (-1), 1) := by decide +kernel
theorem dX7_isThere_7 : decode cX7_isThere 7 = .ok (.if_icmp .ne 7, 3) := by decide +kernel
theorem dX7_isThere_10 : decode cX7_isThere 10 = .ok (.iconst 1, 1) := by decide +kernel
theorem dX7_isThere_11 : decode cX7_isThere 11 = .ok (.goto 4, 3) := by decide +kernel
theorem dX7_isThere_14 : decode cX7_isThere 14 = .ok (.iconst 0, 1) := by decide +kernel
theorem dX7_isThere_15 : decode cX7_isThere 15 = .ok (.ireturn, 1) := by decide +kernel
theorem dX7_thereIn_0 : decode cX7_thereIn 0 = .ok (.iconst 0, 1) := by decide +kernel
theorem dX7_thereIn_1 : decode cX7_thereIn 1 = .ok (.istore_n 2, 1) := by decide +kernel
theorem dX7_thereIn_2 : decode cX7_thereIn 2 = .ok (.iconst 0, 1) := by decide +kernel
theorem dX7_thereIn_3 : decode cX7_thereIn 3 = .ok (.istore_n 3, 1) := by decide +kernel
theorem dX7_thereIn_4 : decode cX7_thereIn 4 = .ok (.iload_n 3, 1) := by decide +kernel
theorem dX7_thereIn_5 : decode cX7_thereIn 5 = .ok (.aload_n 0, 1) := by decide +kernel
theorem dX7_thereIn_6 : decode cX7_thereIn 6 = .ok (.getfield 55, 3) := by decide +kernel
theorem dX7_thereIn_9 : decode cX7_thereIn 9 = .ok (.if_icmp .ge 30, 3) := by decide +kernel
theorem dX7_thereIn_12 : decode cX7_thereIn 12 = .ok (.aload_n 0, 1) := by decide +kernel
theorem dX7_thereIn_13 : decode cX7_thereIn 13 = .ok (.getfield 27, 3) := by decide +kernel
theorem dX7_thereIn_16 : decode cX7_thereIn 16 = .ok (.iload_n 3, 1) := by decide +kernel
theorem dX7_thereIn_17 : decode cX7_thereIn 17 = .ok (.iaload, 1) := by decide +kernel
theorem dX7_thereIn_18 : decode cX7_thereIn 18 = .ok (.iload_n 1, 1) := by decide +kernel
theorem dX7_thereIn_19 : decode cX7_thereIn 19 = .ok (.if_icmp .ne 14, 3) := by decide +kernel
theorem dX7_thereIn_22 : decode cX7_thereIn 22 = .ok (.aload_n 0, 1) := by decide +kernel
theorem dX7_thereIn_23 : decode cX7_thereIn 23 = .ok (.iload_n 3, 1) := by decide +kernel
theorem dX7_thereIn_24 : decode cX7_thereIn 24 = .ok (.invokevirtual 61, 3) := by decide +kernel
theorem dX7_thereIn_27 : decode cX7_thereIn 27 = .ok (.ifCond .eq 6, 3) := by decide +kernel
theorem dX7_thereIn_30 : decode cX7_thereIn 30 = .ok (.iinc 2 1, 3) := by decide +kernel
theorem dX7_thereIn_33 : decode cX7_thereIn 33 = .ok (.iinc 3 1, 3) := by decide +kernel
theorem dX7_thereIn_36 : decode cX7_thereIn 36 = .ok (.goto (-32), 3) := by decide +kernel
theorem dX7_thereIn_39 : decode cX7_thereIn 39 = .ok (.iload_n 2, 1) := by decide +kernel
theorem dX7_thereIn_40 : decode cX7_thereIn 40 = .ok (.ireturn, 1) := by decide +kernel
theorem dX7_howManyWent_0 : decode cX7_howManyWent 0 = .ok (.iconst 0, 1) := by decide +kernel
