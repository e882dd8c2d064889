theorem dX7_howManyWent_1 : decode cX7_howManyWent 1 = .ok (.istore_n 1, 1) := by decide +kernel
theorem dX7_howManyWent_2 : decode cX7_howManyWent 2 = .ok (.iconst 0, 1) := by decide +kernel
theorem dX7_howManyWent_3 : decode cX7_howManyWent 3 = .ok (.istore_n 2, 1) := by decide +kernel
theorem dX7_howManyWent_4 : decode cX7_howManyWent 4 = .ok (.iload_n 2, 1) := by decide +kernel
theorem dX7_howManyWent_5 : decode cX7_howManyWent 5 = .ok (.bipush 10, 2) := by decide +kernel
theorem dX7_howManyWent_7 : decode cX7_howManyWent 7 = .ok (.if_icmp .ge 18, 3) := by decide +kernel
theorem dX7_howManyWent_10 : decode cX7_howManyWent 10 = .ok (.iload_n 1, 1) := by decide +kernel
theorem dX7_howManyWent_11 : decode cX7_howManyWent 11 = .ok (.aload_n 0, 1) := by decide +kernel
theorem dX7_howManyWent_12 : decode cX7_howManyWent 12 = .ok (.getfield 42, 3) := by decide +kernel
theorem dX7_howManyWent_15 : decode cX7_howManyWent 15 = .ok (.iload_n 2, 1) := by decide +kernel
theorem dX7_howManyWent_16 : decode cX7_howManyWent 16 = .ok (.iaload, 1) := by decide +kernel
theorem dX7_howManyWent_17 : decode cX7_howManyWent 17 = .ok (.iadd, 1) := by decide +kernel
theorem dX7_howManyWent_18 : decode cX7_howManyWent 18 = .ok (.istore_n 1, 1) := by decide +kernel
theorem dX7_howManyWent_19 : decode cX7_howManyWent 19 = .ok (.iinc 2 1, 3) := by decide +kernel
theorem dX7_howManyWent_22 : decode cX7_howManyWent 22 = .ok (.goto (-18), 3) := by decide +kernel
theorem dX7_howManyWent_25 : decode cX7_howManyWent 25 = .ok (.iload_n 1, 1) := by decide +kernel
theorem dX7_howManyWent_26 : decode cX7_howManyWent 26 = .ok (.ireturn, 1) := by decide +kernel
theorem dX7_takeOffers_0 : decode cX7_takeOffers 0 = .ok (.iconst 1, 1) := by decide +kernel
theorem dX7_takeOffers_1 : decode cX7_takeOffers 1 = .ok (.istore_n 2, 1) := by decide +kernel
theorem dX7_takeOffers_2 : decode cX7_takeOffers 2 = .ok (.iconst 0, 1) := by decide +kernel
theorem dX7_takeOffers_3 : decode cX7_takeOffers 3 = .ok (.istore_n 3, 1) := by decide +kernel
theorem dX7_takeOffers_4 : decode cX7_takeOffers 4 = .ok (.iload_n 3, 1) := by decide +kernel
theorem dX7_takeOffers_5 : decode cX7_takeOffers 5 = .ok (.bipush 60, 2) := by decide +kernel
theorem dX7_takeOffers_7 : decode cX7_takeOffers 7 = .ok (.if_icmp .gt 93, 3) := by decide +kernel
theorem dX7_takeOffers_10 : decode cX7_takeOffers 10 = .ok (.iload_n 2, 1) := by decide +kernel
theorem dX7_takeOffers_11 : decode cX7_takeOffers 11 = .ok (.ifCond .eq 89, 3) := by decide +kernel
theorem dX7_takeOffers_14 : decode cX7_takeOffers 14 = .ok (.iconst 0, 1) := by decide +kernel
theorem dX7_takeOffers_15 : decode cX7_takeOffers 15 = .ok (.istore_n 2, 1) := by decide +kernel
theorem dX7_takeOffers_16 : decode cX7_takeOffers 16 = .ok (.iconst 0, 1) := by decide +kernel
theorem dX7_takeOffers_17 : decode cX7_takeOffers 17 = .ok (.istore 4, 2) := by decide +kernel
theorem dX7_takeOffers_19 : decode cX7_takeOffers 19 = .ok (.iload 4, 2) := by decide +kernel
theorem dX7_takeOffers_21 : decode cX7_takeOffers 21 = .ok (.aload_n 0, 1) := by decide +kernel
theorem dX7_takeOffers_22 : decode cX7_takeOffers 22 = .ok (.getfield 55, 3) := by decide +kernel
theorem dX7_takeOffers_25 : decode cX7_takeOffers 25 = .ok (.if_icmp .ge 69, 3) := by decide +kernel
theorem dX7_takeOffers_28 : decode cX7_takeOffers 28 = .ok (.aload_n 0, 1) := by decide +kernel
theorem dX7_takeOffers_29 : decode cX7_takeOffers 29 = .ok (.iload 4, 2) := by decide +kernel
theorem dX7_takeOffers_31 : decode cX7_takeOffers 31 = .ok (.invokevirtual 61, 3) := by decide +kernel
theorem dX7_takeOffers_34 : decode cX7_takeOffers 34 = .ok (.ifCond .eq 54, 3) := by decide +kernel
theorem dX7_takeOffers_37 : decode cX7_takeOffers 37 = .ok (.aload_n 0, 1) := by decide +kernel
theorem dX7_takeOffers_38 : decode cX7_takeOffers 38 = .ok (.getfield 24, 3) := by decide +kernel
theorem dX7_takeOffers_41 : decode cX7_takeOffers 41 = .ok (.aload_n 0, 1) := by decide +kernel
theorem dX7_takeOffers_42 : decode cX7_takeOffers 42 = .ok (.getfield 27, 3) := by decide +kernel
theorem dX7_takeOffers_45 : decode cX7_takeOffers 45 = .ok (.iload 4, 2) := by decide +kernel
theorem dX7_takeOffers_47 : decode cX7_takeOffers 47 = .ok (.iaload, 1) := by decide +kernel
theorem dX7_takeOffers_48 : decode cX7_takeOffers 48 = .ok (.iaload, 1) := by decide +kernel
theorem dX7_takeOffers_49 : decode cX7_takeOffers 49 = .ok (.iload_n 1, 1) := by decide +kernel
theorem dX7_takeOffers_50 : decode cX7_takeOffers 50 = .ok (.if_icmp .lt 38, 3) := by decide +kernel
theorem dX7_takeOffers_53 : decode cX7_takeOffers 53 = .ok (.aload_n 0, 1) := by decide +kernel
theorem dX7_takeOffers_54 : decode cX7_takeOffers 54 = .ok (.iload 4, 2) := by decide +kernel
theorem dX7_takeOffers_56 : decode cX7_takeOffers 56 = .ok (.invokevirtual 65, 3) := by decide +kernel
theorem dX7_takeOffers_59 : decode cX7_takeOffers 59 = .ok (.ifCond .eq 29, 3) := by decide +kernel
theorem dX7_takeOffers_62 : decode cX7_takeOffers 62 = .ok (.aload_n 0, 1) := by decide +kernel
theorem dX7_takeOffers_63 : decode cX7_takeOffers 63 = .ok (.getfield 39, 3) := by decide +kernel
theorem dX7_takeOffers_66 : decode cX7_takeOffers 66 = .ok (.iload 4, 2) := by decide +kernel
theorem dX7_takeOffers_68 : decode cX7_takeOffers 68 = .ok (.iload_n 1, 1) := by decide +kernel
theorem dX7_takeOffers_69 : decode cX7_takeOffers 69 = .ok (.iastore, 1) := by decide +kernel
theorem dX7_takeOffers_70 : decode cX7_takeOffers 70 = .ok (.aload_n 0, 1) := by decide +kernel
theorem dX7_takeOffers_71 : decode cX7_takeOffers 71 = .ok (.getfield 42, 3) := by decide +kernel
theorem dX7_takeOffers_74 : decode cX7_takeOffers 74 = .ok (.aload_n 0, 1) := by decide +kernel
theorem dX7_takeOffers_75 : decode cX7_takeOffers 75 = .ok (.getfield 30, 3) := by decide +kernel
theorem dX7_takeOffers_78 : decode cX7_takeOffers 78 = .ok (.iload 4, 2) := by decide +kernel
theorem dX7_takeOffers_80 : decode cX7_takeOffers 80 = .ok (.iaload, 1) := by decide +kernel
theorem dX7_takeOffers_81 : decode cX7_takeOffers 81 = .ok (.dup2, 1) := by decide +kernel
theorem dX7_takeOffers_82 : decode cX7_takeOffers 82 = .ok (.iaload, 1) := by decide +kernel
theorem dX7_takeOffers_83 : decode cX7_takeOffers 83 = .ok (.iconst 1, 1) := by decide +kernel
theorem dX7_takeOffers_84 : decode cX7_takeOffers 84 = .ok (.iadd, 1) := by decide +kernel
theorem dX7_takeOffers_85 : decode cX7_takeOffers 85 = .ok (.iastore, 1) := by decide +kernel
theorem dX7_takeOffers_86 : decode cX7_takeOffers 86 = .ok (.iconst 1, 1) := by decide +kernel
theorem dX7_takeOffers_87 : decode cX7_takeOffers 87 = .ok (.istore_n 2, 1) := by decide +kernel
theorem dX7_takeOffers_88 : decode cX7_takeOffers 88 = .ok (.iinc 4 1, 3) := by decide +kernel
theorem dX7_takeOffers_91 : decode cX7_takeOffers 91 = .ok (.goto (-72), 3) := by decide +kernel
theorem dX7_takeOffers_94 : decode cX7_takeOffers 94 = .ok (.iinc 3 1, 3) := by decide +kernel
theorem dX7_takeOffers_97 : decode cX7_takeOffers 97 = .ok (.goto (-93), 3) := by decide +kernel
theorem dX7_takeOffers_100 : decode cX7_takeOffers 100 = .ok (.return_, 1) := by decide +kernel
theorem dX7_takes_0 : decode cX7_takes 0 = .ok (.aload_n 0, 1) := by decide +kernel
theorem dX7_takes_1 : decode cX7_takes 1 = .ok (.getfield 58, 3) := by decide +kernel
theorem dX7_takes_4 : decode cX7_takes 4 = .ok (.aload_n 0, 1) := by decide +kernel
theorem dX7_takes_5 : decode cX7_takes 5 = .ok (.getfield 42, 3) := by decide +kernel
theorem dX7_takes_8 : decode cX7_takes 8 = .ok (.aload_n 0, 1) := by decide +kernel
theorem dX7_takes_9 : decode cX7_takes 9 = .ok (.getfield 30, 3) := by decide +kernel
theorem dX7_takes_12 : decode cX7_takes 12 = .ok (.iload_n 1, 1) := by decide +kernel
theorem dX7_takes_13 : decode cX7_takes 13 = .ok (.iaload, 1) := by decide +kernel
theorem dX7_takes_14 : decode cX7_takes 14 = .ok (.iaload, 1) := by decide +kernel
theorem dX7_takes_15 : decode cX7_takes 15 = .ok (.imul, 1) := by decide +kernel
theorem dX7_takes_16 : decode cX7_takes 16 = .ok (.istore_n 2, 1) := by decide +kernel
theorem dX7_takes_17 : decode cX7_takes 17 = .ok (.aload_n 0, 1) := by decide +kernel
theorem dX7_takes_18 : decode cX7_takes 18 = .ok (.getfield 21, 3) := by decide +kernel
theorem dX7_takes_21 : decode cX7_takes 21 = .ok (.aload_n 0, 1) := by decide +kernel
theorem dX7_takes_22 : decode cX7_takes 22 = .ok (.getfield 27, 3) := by decide +kernel
theorem dX7_takes_25 : decode cX7_takes 25 = .ok (.iload_n 1, 1) := by decide +kernel
theorem dX7_takes_26 : decode cX7_takes 26 = .ok (.iaload, 1) := by decide +kernel
theorem dX7_takes_27 : decode cX7_takes 27 = .ok (.iaload, 1) := by decide +kernel
theorem dX7_takes_28 : decode cX7_takes 28 = .ok (.aload_n 0, 1) := by decide +kernel
theorem dX7_takes_29 : decode cX7_takes 29 = .ok (.getfield 36, 3) := by decide +kernel
theorem dX7_takes_32 : decode cX7_takes 32 = .ok (.iload_n 1, 1) := by decide +kernel
theorem dX7_takes_33 : decode cX7_takes 33 = .ok (.iaload, 1) := by decide +kernel
theorem dX7_takes_34 : decode cX7_takes 34 = .ok (.bipush 100, 2) := by decide +kernel
theorem dX7_takes_36 : decode cX7_takes 36 = .ok (.imul, 1) := by decide +kernel
theorem dX7_takes_37 : decode cX7_takes 37 = .ok (.iadd, 1) := by decide +kernel
theorem dX7_takes_38 : decode cX7_takes 38 = .ok (.iload_n 2, 1) := by decide +kernel
theorem dX7_takes_39 : decode cX7_takes 39 = .ok (.iadd, 1) := by decide +kernel
theorem dX7_takes_40 : decode cX7_takes 40 = .ok (.aload_n 0, 1) := by decide +kernel
theorem dX7_takes_41 : decode cX7_takes 41 = .ok (.getfield 33, 3) := by decide +kernel
theorem dX7_takes_44 : decode cX7_takes 44 = .ok (.iload_n 1, 1) := by decide +kernel
theorem dX7_takes_45 : decode cX7_takes 45 = .ok (.iaload, 1) := by decide +kernel
theorem dX7_takes_46 : decode cX7_takes 46 = .ok (.if_icmp .lt 7, 3) := by decide +kernel
theorem dX7_takes_49 : decode cX7_takes 49 = .ok (.iconst 1, 1) := by decide +kernel
theorem dX7_takes_50 : decode cX7_takes 50 = .ok (.goto 4, 3) := by decide +kernel
theorem dX7_takes_53 : decode cX7_takes 53 = .ok (.iconst 0, 1) := by decide +kernel
theorem dX7_takes_54 : decode cX7_takes 54 = .ok (.ireturn, 1) := by decide +kernel
theorem dX8_init_0 : decode cX8_init 0 = .ok (.aload_n 0, 1) := by decide +kernel
theorem dX8_init_1 : decode cX8_init 1 = .ok (.invokespecial 3, 3) := by decide +kernel
theorem dX8_init_4 : decode cX8_init 4 = .ok (.aload_n 0, 1) := by decide +kernel
theorem dX8_init_5 : decode cX8_init 5 = .ok (.bipush 6, 2) := by decide +kernel
theorem dX8_init_7 : decode cX8_init 7 = .ok (.newarray .int, 2) := by decide +kernel
theorem dX8_init_9 : decode cX8_init 9 = .ok (.putfield 11, 3) := by decide +kernel
theorem dX8_init_12 : decode cX8_init 12 = .ok (.aload_n 0, 1) := by decide +kernel
theorem dX8_init_13 : decode cX8_init 13 = .ok (.bipush 6, 2) := by decide +kernel
theorem dX8_init_15 : decode cX8_init 15 = .ok (.newarray .int, 2) := by decide +kernel
theorem dX8_init_17 : decode cX8_init 17 = .ok (.putfield 15, 3) := by decide +kernel
theorem dX8_init_20 : decode cX8_init 20 = .ok (.aload_n 0, 1) := by decide +kernel
theorem dX8_init_21 : decode cX8_init 21 = .ok (.iconst (-1), 1) := by decide +kernel
theorem dX8_init_22 : decode cX8_init 22 = .ok (.putfield 18, 3) := by decide +kernel
theorem dX8_init_25 : decode cX8_init 25 = .ok (.aload_n 0, 1) := by decide +kernel
theorem dX8_init_26 : decode cX8_init 26 = .ok (.iconst (-1), 1) := by decide +kernel
theorem dX8_init_27 : decode cX8_init 27 = .ok (.putfield 22, 3) := by decide +kernel
theorem dX8_init_30 : decode cX8_init 30 = .ok (.return_, 1) := by decide +kernel
theorem dX8_take_0 : decode cX8_take 0 = .ok (.aload_n 0, 1) := by decide +kernel
theorem dX8_take_1 : decode cX8_take 1 = .ok (.aload_n 1, 1) := by decide +kernel
theorem dX8_take_2 : decode cX8_take 2 = .ok (.getfield 25, 3) := by decide +kernel
theorem dX8_take_5 : decode cX8_take 5 = .ok (.putfield 25, 3) := by decide +kernel
theorem dX8_take_8 : decode cX8_take 8 = .ok (.aload_n 1, 1) := by decide +kernel
theorem dX8_take_9 : decode cX8_take 9 = .ok (.getfield 11, 3) := by decide +kernel
theorem dX8_take_12 : decode cX8_take 12 = .ok (.iconst 0, 1) := by decide +kernel
theorem dX8_take_13 : decode cX8_take 13 = .ok (.aload_n 0, 1) := by decide +kernel
theorem dX8_take_14 : decode cX8_take 14 = .ok (.getfield 11, 3) := by decide +kernel
theorem dX8_take_17 : decode cX8_take 17 = .ok (.iconst 0, 1) := by decide +kernel
theorem dX8_take_18 : decode cX8_take 18 = .ok (.bipush 6, 2) := by decide +kernel
theorem dX8_take_20 : decode cX8_take 20 = .ok (.invokestatic 28, 3) := by decide +kernel
theorem dX8_take_23 : decode cX8_take 23 = .ok (.aload_n 1, 1) := by decide +kernel
theorem dX8_take_24 : decode cX8_take 24 = .ok (.getfield 15, 3) := by decide +kernel
theorem dX8_take_27 : decode cX8_take 27 = .ok (.iconst 0, 1) := by decide +kernel
theorem dX8_take_28 : decode cX8_take 28 = .ok (.aload_n 0, 1) := by decide +kernel
theorem dX8_take_29 : decode cX8_take 29 = .ok (.getfield 15, 3) := by decide +kernel
theorem dX8_take_32 : decode cX8_take 32 = .ok (.iconst 0, 1) := by decide +kernel
theorem dX8_take_33 : decode cX8_take 33 = .ok (.bipush 6, 2) := by decide +kernel
theorem dX8_take_35 : decode cX8_take 35 = .ok (.invokestatic 28, 3) := by decide +kernel
theorem dX8_take_38 : decode cX8_take 38 = .ok (.aload_n 0, 1) := by decide +kernel
theorem dX8_take_39 : decode cX8_take 39 = .ok (.invokevirtual 34, 3) := by decide +kernel
theorem dX8_take_42 : decode cX8_take 42 = .ok (.return_, 1) := by decide +kernel
theorem dX8_forget_0 : decode cX8_forget 0 = .ok (.aload_n 0, 1) := by decide +kernel
theorem dX8_forget_1 : decode cX8_forget 1 = .ok (.iconst (-1), 1) := by decide +kernel
theorem dX8_forget_2 : decode cX8_forget 2 = .ok (.putfield 18, 3) := by decide +kernel
theorem dX8_forget_5 : decode cX8_forget 5 = .ok (.aload_n 0, 1) := by decide +kernel
theorem dX8_forget_6 : decode cX8_forget 6 = .ok (.iconst (-1), 1) := by decide +kernel
theorem dX8_forget_7 : decode cX8_forget 7 = .ok (.putfield 22, 3) := by decide +kernel
theorem dX8_forget_10 : decode cX8_forget 10 = .ok (.return_, 1) := by decide +kernel
theorem dX8_add_0 : decode cX8_add 0 = .ok (.aload_n 0, 1) := by decide +kernel
theorem dX8_add_1 : decode cX8_add 1 = .ok (.getfield 25, 3) := by decide +kernel
theorem dX8_add_4 : decode cX8_add 4 = .ok (.istore_n 3, 1) := by decide +kernel
theorem dX8_add_5 : decode cX8_add 5 = .ok (.aload_n 0, 1) := by decide +kernel
theorem dX8_add_6 : decode cX8_add 6 = .ok (.getfield 11, 3) := by decide +kernel
theorem dX8_add_9 : decode cX8_add 9 = .ok (.iload_n 3, 1) := by decide +kernel
theorem dX8_add_10 : decode cX8_add 10 = .ok (.iload_n 1, 1) := by decide +kernel
theorem dX8_add_11 : decode cX8_add 11 = .ok (.iastore, 1) := by decide +kernel
theorem dX8_add_12 : decode cX8_add 12 = .ok (.aload_n 0, 1) := by decide +kernel
theorem dX8_add_13 : decode cX8_add 13 = .ok (.getfield 15, 3) := by decide +kernel
theorem dX8_add_16 : decode cX8_add 16 = .ok (.iload_n 3, 1) := by decide +kernel
theorem dX8_add_17 : decode cX8_add 17 = .ok (.iload_n 2, 1) := by decide +kernel
theorem dX8_add_18 : decode cX8_add 18 = .ok (.iastore, 1) := by decide +kernel
theorem dX8_add_19 : decode cX8_add 19 = .ok (.aload_n 0, 1) := by decide +kernel
theorem dX8_add_20 : decode cX8_add 20 = .ok (.dup, 1) := by decide +kernel
theorem dX8_add_21 : decode cX8_add 21 = .ok (.getfield 25, 3) := by decide +kernel
theorem dX8_add_24 : decode cX8_add 24 = .ok (.iconst 1, 1) := by decide +kernel
theorem dX8_add_25 : decode cX8_add 25 = .ok (.iadd, 1) := by decide +kernel
theorem dX8_add_26 : decode cX8_add 26 = .ok (.putfield 25, 3) := by decide +kernel
theorem dX8_add_29 : decode cX8_add 29 = .ok (.aload_n 0, 1) := by decide +kernel
theorem dX8_add_30 : decode cX8_add 30 = .ok (.invokevirtual 34, 3) := by decide +kernel
theorem dX8_add_33 : decode cX8_add 33 = .ok (.iload_n 3, 1) := by decide +kernel
theorem dX8_add_34 : decode cX8_add 34 = .ok (.ireturn, 1) := by decide +kernel
theorem dX8_costOf_0 : decode cX8_costOf 0 = .ok (.iconst 0, 1) := by decide +kernel
theorem dX8_costOf_1 : decode cX8_costOf 1 = .ok (.istore_n 2, 1) := by decide +kernel
theorem dX8_costOf_2 : decode cX8_costOf 2 = .ok (.iconst 0, 1) := by decide +kernel
theorem dX8_costOf_3 : decode cX8_costOf 3 = .ok (.istore_n 3, 1) := by decide +kernel
theorem dX8_costOf_4 : decode cX8_costOf 4 = .ok (.iload_n 3, 1) := by decide +kernel
theorem dX8_costOf_5 : decode cX8_costOf 5 = .ok (.aload_n 0, 1) := by decide +kernel
theorem dX8_costOf_6 : decode cX8_costOf 6 = .ok (.getfield 25, 3) := by decide +kernel
theorem dX8_costOf_9 : decode cX8_costOf 9 = .ok (.if_icmp .ge 30, 3) := by decide +kernel
theorem dX8_costOf_12 : decode cX8_costOf 12 = .ok (.iload_n 2, 1) := by decide +kernel
theorem dX8_costOf_13 : decode cX8_costOf 13 = .ok (.iload_n 1, 1) := by decide +kernel
theorem dX8_costOf_14 : decode cX8_costOf 14 = .ok (.iload_n 3, 1) := by decide +kernel
theorem dX8_costOf_15 : decode cX8_costOf 15 = .ok (.invokestatic 37, 3) := by decide +kernel
theorem dX8_costOf_18 : decode cX8_costOf 18 = .ok (.ifCond .eq 12, 3) := by decide +kernel
theorem dX8_costOf_21 : decode cX8_costOf 21 = .ok (.aload_n 0, 1) := by decide +kernel
theorem dX8_costOf_22 : decode cX8_costOf 22 = .ok (.getfield 15, 3) := by decide +kernel
theorem dX8_costOf_25 : decode cX8_costOf 25 = .ok (.iload_n 3, 1) := by decide +kernel
theorem dX8_costOf_26 : decode cX8_costOf 26 = .ok (.iaload, 1) := by decide +kernel
theorem dX8_costOf_27 : decode cX8_costOf 27 = .ok (.goto 4, 3) := by decide +kernel
theorem dX8_costOf_30 : decode cX8_costOf 30 = .ok (.iconst 0, 1) := by decide +kernel
theorem dX8_costOf_31 : decode cX8_costOf 31 = .ok (.iadd, 1) := by decide +kernel
theorem dX8_costOf_32 : decode cX8_costOf 32 = .ok (.istore_n 2, 1) := by decide +kernel
theorem dX8_costOf_33 : decode cX8_costOf 33 = .ok (.iinc 3 1, 3) := by decide +kernel
theorem dX8_costOf_36 : decode cX8_costOf 36 = .ok (.goto (-32), 3) := by decide +kernel
theorem dX8_costOf_39 : decode cX8_costOf 39 = .ok (.iload_n 2, 1) := by decide +kernel
theorem dX8_costOf_40 : decode cX8_costOf 40 = .ok (.ireturn, 1) := by decide +kernel
theorem dX8_cellsOf_0 : decode cX8_cellsOf 0 = .ok (.lconst 0, 1) := by decide +kernel
theorem dX8_cellsOf_1 : decode cX8_cellsOf 1 = .ok (.lstore_n 2, 1) := by decide +kernel
theorem dX8_cellsOf_2 : decode cX8_cellsOf 2 = .ok (.iconst 0, 1) := by decide +kernel
theorem dX8_cellsOf_3 : decode cX8_cellsOf 3 = .ok (.istore 4, 2) := by decide +kernel
theorem dX8_cellsOf_5 : decode cX8_cellsOf 5 = .ok (.iload 4, 2) := by decide +kernel
theorem dX8_cellsOf_7 : decode cX8_cellsOf 7 = .ok (.aload_n 0, 1) := by decide +kernel
theorem dX8_cellsOf_8 : decode cX8_cellsOf 8 = .ok (.getfield 25, 3) := by decide +kernel
theorem dX8_cellsOf_11 : decode cX8_cellsOf 11 = .ok (.if_icmp .ge 35, 3) := by decide +kernel
theorem dX8_cellsOf_14 : decode cX8_cellsOf 14 = .ok (.lload_n 2, 1) := by decide +kernel
theorem dX8_cellsOf_15 : decode cX8_cellsOf 15 = .ok (.iload_n 1, 1) := by decide +kernel
theorem dX8_cellsOf_16 : decode cX8_cellsOf 16 = .ok (.iload 4, 2) := by decide +kernel
theorem dX8_cellsOf_18 : decode cX8_cellsOf 18 = .ok (.invokestatic 37, 3) := by decide +kernel
theorem dX8_cellsOf_21 : decode cX8_cellsOf 21 = .ok (.ifCond .eq 16, 3) := by decide +kernel
theorem dX8_cellsOf_24 : decode cX8_cellsOf 24 = .ok (.aload_n 0, 1) := by decide +kernel
theorem dX8_cellsOf_25 : decode cX8_cellsOf 25 = .ok (.getfield 11, 3) := by decide +kernel
theorem dX8_cellsOf_28 : decode cX8_cellsOf 28 = .ok (.iload 4, 2) := by decide +kernel
theorem dX8_cellsOf_30 : decode cX8_cellsOf 30 = .ok (.iaload, 1) := by decide +kernel
theorem dX8_cellsOf_31 : decode cX8_cellsOf 31 = .ok (.invokestatic 41, 3) := by decide +kernel
theorem dX8_cellsOf_34 : decode cX8_cellsOf 34 = .ok (.goto 4, 3) := by decide +kernel
theorem dX8_cellsOf_37 : decode cX8_cellsOf 37 = .ok (.lconst 0, 1) := by decide +kernel
theorem dX8_cellsOf_38 : decode cX8_cellsOf 38 = .ok (.lor, 1) := by decide +kernel
theorem dX8_cellsOf_39 : decode cX8_cellsOf 39 = .ok (.lstore_n 2, 1) := by decide +kernel
theorem dX8_cellsOf_40 : decode cX8_cellsOf 40 = .ok (.iinc 4 1, 3) := by decide +kernel
theorem dX8_cellsOf_43 : decode cX8_cellsOf 43 = .ok (.goto (-38), 3) := by decide +kernel
theorem dX8_cellsOf_46 : decode cX8_cellsOf 46 = .ok (.lload_n 2, 1) := by decide +kernel
theorem dX8_cellsOf_47 : decode cX8_cellsOf 47 = .ok (.lreturn, 1) := by decide +kernel
theorem dX9_init_0 : decode cX9_init 0 = .ok (.aload_n 0, 1) := by decide +kernel
theorem dX9_init_1 : decode cX9_init 1 = .ok (.invokespecial 3, 3) := by decide +kernel
theorem dX9_init_4 : decode cX9_init 4 = .ok (.aload_n 0, 1) := by decide +kernel
theorem dX9_init_5 : decode cX9_init 5 = .ok (.bipush 20, 2) := by decide +kernel
theorem dX9_init_7 : decode cX9_init 7 = .ok (.newarray .int, 2) := by decide +kernel
theorem dX9_init_9 : decode cX9_init 9 = .ok (.putfield 11, 3) := by decide +kernel
theorem dX9_init_12 : decode cX9_init 12 = .ok (.aload_n 0, 1) := by decide +kernel
theorem dX9_init_13 : decode cX9_init 13 = .ok (.bipush 20, 2) := by decide +kernel
theorem dX9_init_15 : decode cX9_init 15 = .ok (.newarray .int, 2) := by decide +kernel
theorem dX9_init_17 : decode cX9_init 17 = .ok (.putfield 15, 3) := by decide +kernel
theorem dX9_init_20 : decode cX9_init 20 = .ok (.aload_n 0, 1) := by decide +kernel
theorem dX9_init_21 : decode cX9_init 21 = .ok (.bipush 20, 2) := by decide +kernel
theorem dX9_init_23 : decode cX9_init 23 = .ok (.newarray .int, 2) := by decide +kernel
theorem dX9_init_25 : decode cX9_init 25 = .ok (.putfield 18, 3) := by decide +kernel
theorem dX9_init_28 : decode cX9_init 28 = .ok (.aload_n 0, 1) := by decide +kernel
theorem dX9_init_29 : decode cX9_init 29 = .ok (.bipush 100, 2) := by decide +kernel
theorem dX9_init_31 : decode cX9_init 31 = .ok (.newarray .long, 2) := by decide +kernel
theorem dX9_init_33 : decode cX9_init 33 = .ok (.putfield 21, 3) := by decide +kernel
theorem dX9_init_36 : decode cX9_init 36 = .ok (.aload_n 0, 1) := by decide +kernel
theorem dX9_init_37 : decode cX9_init 37 = .ok (.bipush 10, 2) := by decide +kernel
theorem dX9_init_39 : decode cX9_init 39 = .ok (.newarray .int, 2) := by decide +kernel
theorem dX9_init_41 : decode cX9_init 41 = .ok (.putfield 25, 3) := by decide +kernel
theorem dX9_init_44 : decode cX9_init 44 = .ok (.aload_n 0, 1) := by decide +kernel
theorem dX9_init_45 : decode cX9_init 45 = .ok (.bipush 10, 2) := by decide +kernel
theorem dX9_init_47 : decode cX9_init 47 = .ok (.newarray .int, 2) := by decide +kernel
theorem dX9_init_49 : decode cX9_init 49 = .ok (.putfield 28, 3) := by decide +kernel
theorem dX9_init_52 : decode cX9_init 52 = .ok (.aload_n 0, 1) := by decide +kernel
theorem dX9_init_53 : decode cX9_init 53 = .ok (.bipush 10, 2) := by decide +kernel
theorem dX9_init_55 : decode cX9_init 55 = .ok (.newarray .int, 2) := by decide +kernel
theorem dX9_init_57 : decode cX9_init 57 = .ok (.putfield 31, 3) := by decide +kernel
theorem dX9_init_60 : decode cX9_init 60 = .ok (.aload_n 0, 1) := by decide +kernel
theorem dX9_init_61 : decode cX9_init 61 = .ok (.bipush 10, 2) := by decide +kernel
theorem dX9_init_63 : decode cX9_init 63 = .ok (.newarray .int, 2) := by decide +kernel
theorem dX9_init_65 : decode cX9_init 65 = .ok (.putfield 34, 3) := by decide +kernel
theorem dX9_init_68 : decode cX9_init 68 = .ok (.aload_n 0, 1) := by decide +kernel
theorem dX9_init_69 : decode cX9_init 69 = .ok (.bipush 10, 2) := by decide +kernel
theorem dX9_init_71 : decode cX9_init 71 = .ok (.newarray .int, 2) := by decide +kernel
theorem dX9_init_73 : decode cX9_init 73 = .ok (.putfield 37, 3) := by decide +kernel
theorem dX9_init_76 : decode cX9_init 76 = .ok (.aload_n 0, 1) := by decide +kernel
theorem dX9_init_77 : decode cX9_init 77 = .ok (.bipush 100, 2) := by decide +kernel
theorem dX9_init_79 : decode cX9_init 79 = .ok (.newarray .long, 2) := by decide +kernel
theorem dX9_init_81 : decode cX9_init 81 = .ok (.putfield 40, 3) := by decide +kernel
theorem dX9_init_84 : decode cX9_init 84 = .ok (.return_, 1) := by decide +kernel
theorem dX9_take_0 : decode cX9_take 0 = .ok (.aload_n 0, 1) := by decide +kernel
theorem dX9_take_1 : decode cX9_take 1 = .ok (.aload_n 1, 1) := by decide +kernel
theorem dX9_take_2 : decode cX9_take 2 = .ok (.getfield 43, 3) := by decide +kernel
theorem dX9_take_5 : decode cX9_take 5 = .ok (.putfield 43, 3) := by decide +kernel
theorem dX9_take_8 : decode cX9_take 8 = .ok (.aload_n 1, 1) := by decide +kernel
theorem dX9_take_9 : decode cX9_take 9 = .ok (.getfield 11, 3) := by decide +kernel
theorem dX9_take_12 : decode cX9_take 12 = .ok (.iconst 0, 1) := by decide +kernel
theorem dX9_take_13 : decode cX9_take 13 = .ok (.aload_n 0, 1) := by decide +kernel
theorem dX9_take_14 : decode cX9_take 14 = .ok (.getfield 11, 3) := by decide +kernel
theorem dX9_take_17 : decode cX9_take 17 = .ok (.iconst 0, 1) := by decide +kernel
theorem dX9_take_18 : decode cX9_take 18 = .ok (.bipush 20, 2) := by decide +kernel
theorem dX9_take_20 : decode cX9_take 20 = .ok (.invokestatic 47, 3) := by decide +kernel
theorem dX9_take_23 : decode cX9_take 23 = .ok (.aload_n 1, 1) := by decide +kernel
theorem dX9_take_24 : decode cX9_take 24 = .ok (.getfield 15, 3) := by decide +kernel
theorem dX9_take_27 : decode cX9_take 27 = .ok (.iconst 0, 1) := by decide +kernel
theorem dX9_take_28 : decode cX9_take 28 = .ok (.aload_n 0, 1) := by decide +kernel
theorem dX9_take_29 : decode cX9_take 29 = .ok (.getfield 15, 3) := by decide +kernel
theorem dX9_take_32 : decode cX9_take 32 = .ok (.iconst 0, 1) := by decide +kernel
theorem dX9_take_33 : decode cX9_take 33 = .ok (.bipush 20, 2) := by decide +kernel
theorem dX9_take_35 : decode cX9_take 35 = .ok (.invokestatic 47, 3) := by decide +kernel
theorem dX9_take_38 : decode cX9_take 38 = .ok (.aload_n 1, 1) := by decide +kernel
theorem dX9_take_39 : decode cX9_take 39 = .ok (.getfield 18, 3) := by decide +kernel
theorem dX9_take_42 : decode cX9_take 42 = .ok (.iconst 0, 1) := by decide +kernel
theorem dX9_take_43 : decode cX9_take 43 = .ok (.aload_n 0, 1) := by decide +kernel
theorem dX9_take_44 : decode cX9_take 44 = .ok (.getfield 18, 3) := by decide +kernel
theorem dX9_take_47 : decode cX9_take 47 = .ok (.iconst 0, 1) := by decide +kernel
theorem dX9_take_48 : decode cX9_take 48 = .ok (.bipush 20, 2) := by decide +kernel
theorem dX9_take_50 : decode cX9_take 50 = .ok (.invokestatic 47, 3) := by decide +kernel
theorem dX9_take_53 : decode cX9_take 53 = .ok (.aload_n 1, 1) := by decide +kernel
theorem dX9_take_54 : decode cX9_take 54 = .ok (.getfield 21, 3) := by decide +kernel
theorem dX9_take_57 : decode cX9_take 57 = .ok (.iconst 0, 1) := by decide +kernel
theorem dX9_take_58 : decode cX9_take 58 = .ok (.aload_n 0, 1) := by decide +kernel
theorem dX9_take_59 : decode cX9_take 59 = .ok (.getfield 21, 3) := by decide +kernel
theorem dX9_take_62 : decode cX9_take 62 = .ok (.iconst 0, 1) := by decide +kernel
theorem dX9_take_63 : decode cX9_take 63 = .ok (.bipush 100, 2) := by decide +kernel
theorem dX9_take_65 : decode cX9_take 65 = .ok (.invokestatic 47, 3) := by decide +kernel
theorem dX9_take_68 : decode cX9_take 68 = .ok (.aload_n 0, 1) := by decide +kernel
theorem dX9_take_69 : decode cX9_take 69 = .ok (.aload_n 1, 1) := by decide +kernel
theorem dX9_take_70 : decode cX9_take 70 = .ok (.getfield 53, 3) := by decide +kernel
theorem dX9_take_73 : decode cX9_take 73 = .ok (.putfield 53, 3) := by decide +kernel
theorem dX9_take_76 : decode cX9_take 76 = .ok (.aload_n 1, 1) := by decide +kernel
theorem dX9_take_77 : decode cX9_take 77 = .ok (.getfield 25, 3) := by decide +kernel
theorem dX9_take_80 : decode cX9_take 80 = .ok (.iconst 0, 1) := by decide +kernel
theorem dX9_take_81 : decode cX9_take 81 = .ok (.aload_n 0, 1) := by decide +kernel
theorem dX9_take_82 : decode cX9_take 82 = .ok (.getfield 25, 3) := by decide +kernel
theorem dX9_take_85 : decode cX9_take 85 = .ok (.iconst 0, 1) := by decide +kernel
theorem dX9_take_86 : decode cX9_take 86 = .ok (.bipush 10, 2) := by decide +kernel
theorem dX9_take_88 : decode cX9_take 88 = .ok (.invokestatic 47, 3) := by decide +kernel
theorem dX9_take_91 : decode cX9_take 91 = .ok (.aload_n 1, 1) := by decide +kernel
theorem dX9_take_92 : decode cX9_take 92 = .ok (.getfield 28, 3) := by decide +kernel
theorem dX9_take_95 : decode cX9_take 95 = .ok (.iconst 0, 1) := by decide +kernel
theorem dX9_take_96 : decode cX9_take 96 = .ok (.aload_n 0, 1) := by decide +kernel
theorem dX9_take_97 : decode cX9_take 97 = .ok (.getfield 28, 3) := by decide +kernel
theorem dX9_take_100 : decode cX9_take 100 = .ok (.iconst 0, 1) := by decide +kernel
theorem dX9_take_101 : decode cX9_take 101 = .ok (.bipush 10, 2) := by decide +kernel
theorem dX9_take_103 : decode cX9_take 103 = .ok (.invokestatic 47, 3) := by decide +kernel
theorem dX9_take_106 : decode cX9_take 106 = .ok (.aload_n 1, 1) := by decide +kernel
theorem dX9_take_107 : decode cX9_take 107 = .ok (.getfield 31, 3) := by decide +kernel
theorem dX9_take_110 : decode cX9_take 110 = .ok (.iconst 0, 1) := by decide +kernel
theorem dX9_take_111 : decode cX9_take 111 = .ok (.aload_n 0, 1) := by decide +kernel
theorem dX9_take_112 : decode cX9_take 112 = .ok (.getfield 31, 3) := by decide +kernel
theorem dX9_take_115 : decode cX9_take 115 = .ok (.iconst 0, 1) := by decide +kernel
theorem dX9_take_116 : decode cX9_take 116 = .ok (.bipush 10, 2) := by decide +kernel
theorem dX9_take_118 : decode cX9_take 118 = .ok (.invokestatic 47, 3) := by decide +kernel
theorem dX9_take_121 : decode cX9_take 121 = .ok (.aload_n 1, 1) := by decide +kernel
theorem dX9_take_122 : decode cX9_take 122 = .ok (.getfield 34, 3) := by decide +kernel
theorem dX9_take_125 : decode cX9_take 125 = .ok (.iconst 0, 1) := by decide +kernel
theorem dX9_take_126 : decode cX9_take 126 = .ok (.aload_n 0, 1) := by decide +kernel
theorem dX9_take_127 : decode cX9_take 127 = .ok (.getfield 34, 3) := by decide +kernel
theorem dX9_take_130 : decode cX9_take 130 = .ok (.iconst 0, 1) := by decide +kernel
theorem dX9_take_131 : decode cX9_take 131 = .ok (.bipush 10, 2) := by decide +kernel
theorem dX9_take_133 : decode cX9_take 133 = .ok (.invokestatic 47, 3) := by decide +kernel
theorem dX9_take_136 : decode cX9_take 136 = .ok (.aload_n 1, 1) := by decide +kernel
theorem dX9_take_137 : decode cX9_take 137 = .ok (.getfield 37, 3) := by decide +kernel
theorem dX9_take_140 : decode cX9_take 140 = .ok (.iconst 0, 1) := by decide +kernel
theorem dX9_take_141 : decode cX9_take 141 = .ok (.aload_n 0, 1) := by decide +kernel
theorem dX9_take_142 : decode cX9_take 142 = .ok (.getfield 37, 3) := by decide +kernel
theorem dX9_take_145 : decode cX9_take 145 = .ok (.iconst 0, 1) := by decide +kernel
theorem dX9_take_146 : decode cX9_take 146 = .ok (.bipush 10, 2) := by decide +kernel
theorem dX9_take_148 : decode cX9_take 148 = .ok (.invokestatic 47, 3) := by decide +kernel
theorem dX9_take_151 : decode cX9_take 151 = .ok (.aload_n 1, 1) := by decide +kernel
theorem dX9_take_152 : decode cX9_take 152 = .ok (.getfield 40, 3) := by decide +kernel
theorem dX9_take_155 : decode cX9_take 155 = .ok (.iconst 0, 1) := by decide +kernel
theorem dX9_take_156 : decode cX9_take 156 = .ok (.aload_n 0, 1) := by decide +kernel
theorem dX9_take_157 : decode cX9_take 157 = .ok (.getfield 40, 3) := by decide +kernel
theorem dX9_take_160 : decode cX9_take 160 = .ok (.iconst 0, 1) := by decide +kernel
theorem dX9_take_161 : decode cX9_take 161 = .ok (.bipush 100, 2) := by decide +kernel
theorem dX9_take_163 : decode cX9_take 163 = .ok (.invokestatic 47, 3) := by decide +kernel
theorem dX9_take_166 : decode cX9_take 166 = .ok (.return_, 1) := by decide +kernel
theorem dX9_hasHole_0 : decode cX9_hasHole 0 = .ok (.iload_n 1, 1) := by decide +kernel
theorem dX9_hasHole_1 : decode cX9_hasHole 1 = .ok (.ifCond .lt 15, 3) := by decide +kernel
theorem dX9_hasHole_4 : decode cX9_hasHole 4 = .ok (.iload_n 1, 1) := by decide +kernel
theorem dX9_hasHole_5 : decode cX9_hasHole 5 = .ok (.aload_n 0, 1) := by decide +kernel
theorem dX9_hasHole_6 : decode cX9_hasHole 6 = .ok (.getfield 43, 3) := by decide +kernel
theorem dX9_hasHole_9 : decode cX9_hasHole 9 = .ok (.if_icmp .ge 7, 3) := by decide +kernel
theorem dX9_hasHole_12 : decode cX9_hasHole 12 = .ok (.iconst 1, 1) := by decide +kernel
theorem dX9_hasHole_13 : decode cX9_hasHole 13 = .ok (.goto 4, 3) := by decide +kernel
theorem dX9_hasHole_16 : decode cX9_hasHole 16 = .ok (.iconst 0, 1) := by decide +kernel
theorem dX9_hasHole_17 : decode cX9_hasHole 17 = .ok (.ireturn, 1) := by decide +kernel
theorem dX9_bore_0 : decode cX9_bore 0 = .ok (.aload_n 0, 1) := by decide +kernel
theorem dX9_bore_1 : decode cX9_bore 1 = .ok (.getfield 43, 3) := by decide +kernel
theorem dX9_bore_4 : decode cX9_bore 4 = .ok (.istore_n 3, 1) := by decide +kernel
theorem dX9_bore_5 : decode cX9_bore 5 = .ok (.aload_n 0, 1) := by decide +kernel
theorem dX9_bore_6 : decode cX9_bore 6 = .ok (.getfield 11, 3) := by decide +kernel
theorem dX9_bore_9 : decode cX9_bore 9 = .ok (.iload_n 3, 1) := by decide +kernel
theorem dX9_bore_10 : decode cX9_bore 10 = .ok (.iload_n 1, 1) := by decide +kernel
theorem dX9_bore_11 : decode cX9_bore 11 = .ok (.iastore, 1) := by decide +kernel
theorem dX9_bore_12 : decode cX9_bore 12 = .ok (.aload_n 0, 1) := by decide +kernel
theorem dX9_bore_13 : decode cX9_bore 13 = .ok (.getfield 15, 3) := by decide +kernel
theorem dX9_bore_16 : decode cX9_bore 16 = .ok (.iload_n 3, 1) := by decide +kernel
theorem dX9_bore_17 : decode cX9_bore 17 = .ok (.iload_n 2, 1) := by decide +kernel
theorem dX9_bore_18 : decode cX9_bore 18 = .ok (.iastore, 1) := by decide +kernel
theorem dX9_bore_19 : decode cX9_bore 19 = .ok (.aload_n 0, 1) := by decide +kernel
theorem dX9_bore_20 : decode cX9_bore 20 = .ok (.getfield 18, 3) := by decide +kernel
theorem dX9_bore_23 : decode cX9_bore 23 = .ok (.iload_n 3, 1) := by decide +kernel
theorem dX9_bore_24 : decode cX9_bore 24 = .ok (.iconst (-1), 1) := by decide +kernel
theorem dX9_bore_25 : decode cX9_bore 25 = .ok (.iastore, 1) := by decide +kernel
theorem dX9_bore_26 : decode cX9_bore 26 = .ok (.aload_n 0, 1) := by decide +kernel
theorem dX9_bore_27 : decode cX9_bore 27 = .ok (.dup, 1) := by decide +kernel
theorem dX9_bore_28 : decode cX9_bore 28 = .ok (.getfield 43, 3) := by decide +kernel
theorem dX9_bore_31 : decode cX9_bore 31 = .ok (.iconst 1, 1) := by decide +kernel
theorem dX9_bore_32 : decode cX9_bore 32 = .ok (.iadd, 1) := by decide +kernel
theorem dX9_bore_33 : decode cX9_bore 33 = .ok (.putfield 43, 3) := by decide +kernel
theorem dX9_bore_36 : decode cX9_bore 36 = .ok (.aload_n 0, 1) := by decide +kernel
theorem dX9_bore_37 : decode cX9_bore 37 = .ok (.iload_n 2, 1) := by decide +kernel
theorem dX9_bore_38 : decode cX9_bore 38 = .ok (.invokevirtual 56, 3) := by decide +kernel
theorem dX9_bore_41 : decode cX9_bore 41 = .ok (.iload_n 3, 1) := by decide +kernel
theorem dX9_bore_42 : decode cX9_bore 42 = .ok (.ireturn, 1) := by decide +kernel
theorem dX9_close_0 : decode cX9_close 0 = .ok (.aload_n 0, 1) := by decide +kernel
theorem dX9_close_1 : decode cX9_close 1 = .ok (.getfield 18, 3) := by decide +kernel
theorem dX9_close_4 : decode cX9_close 4 = .ok (.iload_n 1, 1) := by decide +kernel
theorem dX9_close_5 : decode cX9_close 5 = .ok (.iload_n 2, 1) := by decide +kernel
theorem dX9_close_6 : decode cX9_close 6 = .ok (.iastore, 1) := by decide +kernel
theorem dX9_close_7 : decode cX9_close 7 = .ok (.aload_n 0, 1) := by decide +kernel
theorem dX9_close_8 : decode cX9_close 8 = .ok (.iload_n 2, 1) := by decide +kernel
theorem dX9_close_9 : decode cX9_close 9 = .ok (.invokevirtual 56, 3) := by decide +kernel
theorem dX9_close_12 : decode cX9_close 12 = .ok (.return_, 1) := by decide +kernel
theorem dX9_noteHoles_0 : decode cX9_noteHoles 0 = .ok (.iload_n 1, 1) := by decide +kernel
theorem dX9_noteHoles_1 : decode cX9_noteHoles 1 = .ok (.istore_n 2, 1) := by decide +kernel
theorem dX9_noteHoles_2 : decode cX9_noteHoles 2 = .ok (.iload_n 2, 1) := by decide +kernel
theorem dX9_noteHoles_3 : decode cX9_noteHoles 3 = .ok (.bipush 100, 2) := by decide +kernel
theorem dX9_noteHoles_5 : decode cX9_noteHoles 5 = .ok (.if_icmp .ge 21, 3) := by decide +kernel
theorem dX9_noteHoles_8 : decode cX9_noteHoles 8 = .ok (.aload_n 0, 1) := by decide +kernel
theorem dX9_noteHoles_9 : decode cX9_noteHoles 9 = .ok (.getfield 21, 3) := by decide +kernel
theorem dX9_noteHoles_12 : decode cX9_noteHoles 12 = .ok (.iload_n 2, 1) := by decide +kernel
theorem dX9_noteHoles_13 : decode cX9_noteHoles 13 = .ok (.aload_n 0, 1) := by decide +kernel
theorem dX9_noteHoles_14 : decode cX9_noteHoles 14 = .ok (.iload_n 2, 1) := by decide +kernel
theorem dX9_noteHoles_15 : decode cX9_noteHoles 15 = .ok (.iconst (-1), 1) := by decide +kernel
theorem dX9_noteHoles_16 : decode cX9_noteHoles 16 = .ok (.invokevirtual 60, 3) := by decide +kernel
theorem dX9_noteHoles_19 : decode cX9_noteHoles 19 = .ok (.lastore, 1) := by decide +kernel
theorem dX9_noteHoles_20 : decode cX9_noteHoles 20 = .ok (.iinc 2 1, 3) := by decide +kernel
theorem dX9_noteHoles_23 : decode cX9_noteHoles 23 = .ok (.goto (-21), 3) := by decide +kernel
theorem dX9_noteHoles_26 : decode cX9_noteHoles 26 = .ok (.return_, 1) := by decide +kernel
theorem dX9_openHoles_0 : decode cX9_openHoles 0 = .ok (.lconst 0, 1) := by decide +kernel
theorem dX9_openHoles_1 : decode cX9_openHoles 1 = .ok (.lstore_n 3, 1) := by decide +kernel
theorem dX9_openHoles_2 : decode cX9_openHoles 2 = .ok (.iconst 0, 1) := by decide +kernel
theorem dX9_openHoles_3 : decode cX9_openHoles 3 = .ok (.istore 5, 2) := by decide +kernel
theorem dX9_openHoles_5 : decode cX9_openHoles 5 = .ok (.iload 5, 2) := by decide +kernel
theorem dX9_openHoles_7 : decode cX9_openHoles 7 = .ok (.aload_n 0, 1) := by decide +kernel
theorem dX9_openHoles_8 : decode cX9_openHoles 8 = .ok (.getfield 43, 3) := by decide +kernel
theorem dX9_openHoles_11 : decode cX9_openHoles 11 = .ok (.if_icmp .ge 73, 3) := by decide +kernel
theorem dX9_openHoles_14 : decode cX9_openHoles 14 = .ok (.aload_n 0, 1) := by decide +kernel
theorem dX9_openHoles_15 : decode cX9_openHoles 15 = .ok (.getfield 15, 3) := by decide +kernel
theorem dX9_openHoles_18 : decode cX9_openHoles 18 = .ok (.iload 5, 2) := by decide +kernel
theorem dX9_openHoles_20 : decode cX9_openHoles 20 = .ok (.iaload, 1) := by decide +kernel
theorem dX9_openHoles_21 : decode cX9_openHoles 21 = .ok (.iload_n 1, 1) := by decide +kernel
theorem dX9_openHoles_22 : decode cX9_openHoles 22 = .ok (.if_icmp .gt 29, 3) := by decide +kernel
theorem dX9_openHoles_25 : decode cX9_openHoles 25 = .ok (.aload_n 0, 1) := by decide +kernel
theorem dX9_openHoles_26 : decode cX9_openHoles 26 = .ok (.getfield 18, 3) := by decide +kernel
theorem dX9_openHoles_29 : decode cX9_openHoles 29 = .ok (.iload 5, 2) := by decide +kernel
theorem dX9_openHoles_31 : decode cX9_openHoles 31 = .ok (.iaload, 1) := by decide +kernel
theorem dX9_openHoles_32 : decode cX9_openHoles 32 = .ok (.iconst (-1), 1) := by decide +kernel
theorem dX9_openHoles_33 : decode cX9_openHoles 33 = .ok (.if_icmp .eq 14, 3) := by decide +kernel
theorem dX9_openHoles_36 : decode cX9_openHoles 36 = .ok (.iload_n 1, 1) := by decide +kernel
theorem dX9_openHoles_37 : decode cX9_openHoles 37 = .ok (.aload_n 0, 1) := by decide +kernel
theorem dX9_openHoles_38 : decode cX9_openHoles 38 = .ok (.getfield 18, 3) := by decide +kernel
theorem dX9_openHoles_41 : decode cX9_openHoles 41 = .ok (.iload 5, 2) := by decide +kernel
theorem dX9_openHoles_43 : decode cX9_openHoles 43 = .ok (.iaload, 1) := by decide +kernel
theorem dX9_openHoles_44 : decode cX9_openHoles 44 = .ok (.if_icmp .ge 7, 3) := by decide +kernel
theorem dX9_openHoles_47 : decode cX9_openHoles 47 = .ok (.iconst 1, 1) := by decide +kernel
theorem dX9_openHoles_48 : decode cX9_openHoles 48 = .ok (.goto 4, 3) := by decide +kernel
theorem dX9_openHoles_51 : decode cX9_openHoles 51 = .ok (.iconst 0, 1) := by decide +kernel
theorem dX9_openHoles_52 : decode cX9_openHoles 52 = .ok (.istore 6, 2) := by decide +kernel
theorem dX9_openHoles_54 : decode cX9_openHoles 54 = .ok (.iload 6, 2) := by decide +kernel
theorem dX9_openHoles_56 : decode cX9_openHoles 56 = .ok (.ifCond .eq 22, 3) := by decide +kernel
theorem dX9_openHoles_59 : decode cX9_openHoles 59 = .ok (.iload 5, 2) := by decide +kernel
theorem dX9_openHoles_61 : decode cX9_openHoles 61 = .ok (.iload_n 2, 1) := by decide +kernel
theorem dX9_openHoles_62 : decode cX9_openHoles 62 = .ok (.if_icmp .eq 16, 3) := by decide +kernel
theorem dX9_openHoles_65 : decode cX9_openHoles 65 = .ok (.lload_n 3, 1) := by decide +kernel
theorem dX9_openHoles_66 : decode cX9_openHoles 66 = .ok (.aload_n 0, 1) := by decide +kernel
theorem dX9_openHoles_67 : decode cX9_openHoles 67 = .ok (.getfield 11, 3) := by decide +kernel
theorem dX9_openHoles_70 : decode cX9_openHoles 70 = .ok (.iload 5, 2) := by decide +kernel
theorem dX9_openHoles_72 : decode cX9_openHoles 72 = .ok (.iaload, 1) := by decide +kernel
theorem dX9_openHoles_73 : decode cX9_openHoles 73 = .ok (.invokestatic 64, 3) := by decide +kernel
theorem dX9_openHoles_76 : decode cX9_openHoles 76 = .ok (.lor, 1) := by decide +kernel
theorem dX9_openHoles_77 : decode cX9_openHoles 77 = .ok (.lstore_n 3, 1) := by decide +kernel
theorem dX9_openHoles_78 : decode cX9_openHoles 78 = .ok (.iinc 5 1, 3) := by decide +kernel
theorem dX9_openHoles_81 : decode cX9_openHoles 81 = .ok (.goto (-76), 3) := by decide +kernel
theorem dX9_openHoles_84 : decode cX9_openHoles 84 = .ok (.lload_n 3, 1) := by decide +kernel
theorem dX9_openHoles_85 : decode cX9_openHoles 85 = .ok (.lreturn, 1) := by decide +kernel
theorem dX9_dig_0 : decode cX9_dig 0 = .ok (.aload_n 0, 1) := by decide +kernel
theorem dX9_dig_1 : decode cX9_dig 1 = .ok (.getfield 53, 3) := by decide +kernel
theorem dX9_dig_4 : decode cX9_dig 4 = .ok (.istore 6, 2) := by decide +kernel
theorem dX9_dig_6 : decode cX9_dig 6 = .ok (.aload_n 0, 1) := by decide +kernel
theorem dX9_dig_7 : decode cX9_dig 7 = .ok (.getfield 25, 3) := by decide +kernel
theorem dX9_dig_10 : decode cX9_dig 10 = .ok (.iload 6, 2) := by decide +kernel
theorem dX9_dig_12 : decode cX9_dig 12 = .ok (.iload_n 1, 1) := by decide +kernel
theorem dX9_dig_13 : decode cX9_dig 13 = .ok (.iastore, 1) := by decide +kernel
theorem dX9_dig_14 : decode cX9_dig 14 = .ok (.aload_n 0, 1) := by decide +kernel
theorem dX9_dig_15 : decode cX9_dig 15 = .ok (.getfield 28, 3) := by decide +kernel
theorem dX9_dig_18 : decode cX9_dig 18 = .ok (.iload 6, 2) := by decide +kernel
theorem dX9_dig_20 : decode cX9_dig 20 = .ok (.iload_n 2, 1) := by decide +kernel
theorem dX9_dig_21 : decode cX9_dig 21 = .ok (.iastore, 1) := by decide +kernel
theorem dX9_dig_22 : decode cX9_dig 22 = .ok (.aload_n 0, 1) := by decide +kernel
theorem dX9_dig_23 : decode cX9_dig 23 = .ok (.getfield 31, 3) := by decide +kernel
theorem dX9_dig_26 : decode cX9_dig 26 = .ok (.iload 6, 2) := by decide +kernel
theorem dX9_dig_28 : decode cX9_dig 28 = .ok (.iload_n 3, 1) := by decide +kernel
theorem dX9_dig_29 : decode cX9_dig 29 = .ok (.iastore, 1) := by decide +kernel
theorem dX9_dig_30 : decode cX9_dig 30 = .ok (.aload_n 0, 1) := by decide +kernel
theorem dX9_dig_31 : decode cX9_dig 31 = .ok (.getfield 34, 3) := by decide +kernel
theorem dX9_dig_34 : decode cX9_dig 34 = .ok (.iload 6, 2) := by decide +kernel
theorem dX9_dig_36 : decode cX9_dig 36 = .ok (.iload 4, 2) := by decide +kernel
theorem dX9_dig_38 : decode cX9_dig 38 = .ok (.iastore, 1) := by decide +kernel
theorem dX9_dig_39 : decode cX9_dig 39 = .ok (.aload_n 0, 1) := by decide +kernel
theorem dX9_dig_40 : decode cX9_dig 40 = .ok (.getfield 37, 3) := by decide +kernel
theorem dX9_dig_43 : decode cX9_dig 43 = .ok (.iload 6, 2) := by decide +kernel
theorem dX9_dig_45 : decode cX9_dig 45 = .ok (.iload 5, 2) := by decide +kernel
theorem dX9_dig_47 : decode cX9_dig 47 = .ok (.iastore, 1) := by decide +kernel
theorem dX9_dig_48 : decode cX9_dig 48 = .ok (.aload_n 0, 1) := by decide +kernel
theorem dX9_dig_49 : decode cX9_dig 49 = .ok (.dup, 1) := by decide +kernel
theorem dX9_dig_50 : decode cX9_dig 50 = .ok (.getfield 53, 3) := by decide +kernel
theorem dX9_dig_53 : decode cX9_dig 53 = .ok (.iconst 1, 1) := by decide +kernel
theorem dX9_dig_54 : decode cX9_dig 54 = .ok (.iadd, 1) := by decide +kernel
theorem dX9_dig_55 : decode cX9_dig 55 = .ok (.putfield 53, 3) := by decide +kernel
theorem dX9_dig_58 : decode cX9_dig 58 = .ok (.iconst 0, 1) := by decide +kernel
theorem dX9_dig_59 : decode cX9_dig 59 = .ok (.istore 7, 2) := by decide +kernel
theorem dX9_dig_61 : decode cX9_dig 61 = .ok (.iload 7, 2) := by decide +kernel
theorem dX9_dig_63 : decode cX9_dig 63 = .ok (.iload_n 3, 1) := by decide +kernel
theorem dX9_dig_64 : decode cX9_dig 64 = .ok (.if_icmp .ge 53, 3) := by decide +kernel
theorem dX9_dig_67 : decode cX9_dig 67 = .ok (.aload_n 0, 1) := by decide +kernel
theorem dX9_dig_68 : decode cX9_dig 68 = .ok (.iload 6, 2) := by decide +kernel
theorem dX9_dig_70 : decode cX9_dig 70 = .ok (.iload 7, 2) := by decide +kernel
theorem dX9_dig_72 : decode cX9_dig 72 = .ok (.invokevirtual 68, 3) := by decide +kernel
theorem dX9_dig_75 : decode cX9_dig 75 = .ok (.istore 8, 2) := by decide +kernel
theorem dX9_dig_77 : decode cX9_dig 77 = .ok (.iload 8, 2) := by decide +kernel
theorem dX9_dig_79 : decode cX9_dig 79 = .ok (.bipush 100, 2) := by decide +kernel
theorem dX9_dig_81 : decode cX9_dig 81 = .ok (.if_icmp .ge 30, 3) := by decide +kernel
theorem dX9_dig_84 : decode cX9_dig 84 = .ok (.aload_n 0, 1) := by decide +kernel
theorem dX9_dig_85 : decode cX9_dig 85 = .ok (.getfield 40, 3) := by decide +kernel
theorem dX9_dig_88 : decode cX9_dig 88 = .ok (.iload 8, 2) := by decide +kernel
theorem dX9_dig_90 : decode cX9_dig 90 = .ok (.dup2, 1) := by decide +kernel
theorem dX9_dig_91 : decode cX9_dig 91 = .ok (.laload, 1) := by decide +kernel
theorem dX9_dig_92 : decode cX9_dig 92 = .ok (.aload_n 0, 1) := by decide +kernel
theorem dX9_dig_93 : decode cX9_dig 93 = .ok (.iload 6, 2) := by decide +kernel
theorem dX9_dig_95 : decode cX9_dig 95 = .ok (.iload 7, 2) := by decide +kernel
theorem dX9_dig_97 : decode cX9_dig 97 = .ok (.invokevirtual 72, 3) := by decide +kernel
theorem dX9_dig_100 : decode cX9_dig 100 = .ok (.invokestatic 64, 3) := by decide +kernel
theorem dX9_dig_103 : decode cX9_dig 103 = .ok (.lor, 1) := by decide +kernel
theorem dX9_dig_104 : decode cX9_dig 104 = .ok (.lastore, 1) := by decide +kernel
theorem dX9_dig_105 : decode cX9_dig 105 = .ok (.iinc 8 1, 3) := by decide +kernel
theorem dX9_dig_108 : decode cX9_dig 108 = .ok (.goto (-31), 3) := by decide +kernel
theorem dX9_dig_111 : decode cX9_dig 111 = .ok (.iinc 7 1, 3) := by decide +kernel
theorem dX9_dig_114 : decode cX9_dig 114 = .ok (.goto (-53), 3) := by decide +kernel
theorem dX9_dig_117 : decode cX9_dig 117 = .ok (.iload 6, 2) := by decide +kernel
theorem dX9_dig_119 : decode cX9_dig 119 = .ok (.ireturn, 1) := by decide +kernel
theorem dX9_weekOfCut_0 : decode cX9_weekOfCut 0 = .ok (.aload_n 0, 1) := by decide +kernel
theorem dX9_weekOfCut_1 : decode cX9_weekOfCut 1 = .ok (.getfield 37, 3) := by decide +kernel
theorem dX9_weekOfCut_4 : decode cX9_weekOfCut 4 = .ok (.iload_n 1, 1) := by decide +kernel
theorem dX9_weekOfCut_5 : decode cX9_weekOfCut 5 = .ok (.iaload, 1) := by decide +kernel
theorem dX9_weekOfCut_6 : decode cX9_weekOfCut 6 = .ok (.iload_n 2, 1) := by decide +kernel
theorem dX9_weekOfCut_7 : decode cX9_weekOfCut 7 = .ok (.iconst 1, 1) := by decide +kernel
theorem dX9_weekOfCut_8 : decode cX9_weekOfCut 8 = .ok (.aload_n 0, 1) := by decide +kernel
theorem dX9_weekOfCut_9 : decode cX9_weekOfCut 9 = .ok (.getfield 34, 3) := by decide +kernel
theorem dX9_weekOfCut_12 : decode cX9_weekOfCut 12 = .ok (.iload_n 1, 1) := by decide +kernel
theorem dX9_weekOfCut_13 : decode cX9_weekOfCut 13 = .ok (.iaload, 1) := by decide +kernel
theorem dX9_weekOfCut_14 : decode cX9_weekOfCut 14 = .ok (.invokestatic 75, 3) := by decide +kernel
theorem dX9_weekOfCut_17 : decode cX9_weekOfCut 17 = .ok (.idiv, 1) := by decide +kernel
theorem dX9_weekOfCut_18 : decode cX9_weekOfCut 18 = .ok (.iadd, 1) := by decide +kernel
theorem dX9_weekOfCut_19 : decode cX9_weekOfCut 19 = .ok (.ireturn, 1) := by decide +kernel
theorem dX9_cellOfCut_0 : decode cX9_cellOfCut 0 = .ok (.aload_n 0, 1) := by decide +kernel
theorem dX9_cellOfCut_1 : decode cX9_cellOfCut 1 = .ok (.getfield 25, 3) := by decide +kernel
theorem dX9_cellOfCut_4 : decode cX9_cellOfCut 4 = .ok (.iload_n 1, 1) := by decide +kernel
theorem dX9_cellOfCut_5 : decode cX9_cellOfCut 5 = .ok (.iaload, 1) := by decide +kernel
theorem dX9_cellOfCut_6 : decode cX9_cellOfCut 6 = .ok (.aload_n 0, 1) := by decide +kernel
theorem dX9_cellOfCut_7 : decode cX9_cellOfCut 7 = .ok (.getfield 28, 3) := by decide +kernel
theorem dX9_cellOfCut_10 : decode cX9_cellOfCut 10 = .ok (.iload_n 1, 1) := by decide +kernel
theorem dX9_cellOfCut_11 : decode cX9_cellOfCut 11 = .ok (.iaload, 1) := by decide +kernel
theorem dX9_cellOfCut_12 : decode cX9_cellOfCut 12 = .ok (.iload_n 2, 1) := by decide +kernel
theorem dX9_cellOfCut_13 : decode cX9_cellOfCut 13 = .ok (.imul, 1) := by decide +kernel
theorem dX9_cellOfCut_14 : decode cX9_cellOfCut 14 = .ok (.iadd, 1) := by decide +kernel
theorem dX9_cellOfCut_15 : decode cX9_cellOfCut 15 = .ok (.ireturn, 1) := by decide +kernel
theorem dX10_init_0 : decode cX10_init 0 = .ok (.aload_n 0, 1) := by decide +kernel
theorem dX10_init_1 : decode cX10_init 1 = .ok (.invokespecial 1, 3) := by decide +kernel
theorem dX10_init_4 : decode cX10_init 4 = .ok (.aload_n 0, 1) := by decide +kernel
theorem dX10_init_5 : decode cX10_init 5 = .ok (.aload_n 1, 1) := by decide +kernel
theorem dX10_init_6 : decode cX10_init 6 = .ok (.putfield 7, 3) := by decide +kernel
theorem dX10_init_9 : decode cX10_init 9 = .ok (.aload_n 0, 1) := by decide +kernel
theorem dX10_init_10 : decode cX10_init 10 = .ok (.new 13, 3) := by decide +kernel
theorem dX10_init_13 : decode cX10_init 13 = .ok (.dup, 1) := by decide +kernel
theorem dX10_init_14 : decode cX10_init 14 = .ok (.aload_n 1, 1) := by decide +kernel
theorem dX10_init_15 : decode cX10_init 15 = .ok (.invokespecial 15, 3) := by decide +kernel
theorem dX10_init_18 : decode cX10_init 18 = .ok (.putfield 18, 3) := by decide +kernel
theorem dX10_init_21 : decode cX10_init 21 = .ok (.aload_n 0, 1) := by decide +kernel
theorem dX10_init_22 : decode cX10_init 22 = .ok (.new 22, 3) := by decide +kernel
theorem dX10_init_25 : decode cX10_init 25 = .ok (.dup, 1) := by decide +kernel
theorem dX10_init_26 : decode cX10_init 26 = .ok (.invokespecial 24, 3) := by decide +kernel
theorem dX10_init_29 : decode cX10_init 29 = .ok (.putfield 25, 3) := by decide +kernel
theorem dX10_init_32 : decode cX10_init 32 = .ok (.aload_n 0, 1) := by decide +kernel
theorem dX10_init_33 : decode cX10_init 33 = .ok (.new 29, 3) := by decide +kernel
theorem dX10_init_36 : decode cX10_init 36 = .ok (.dup, 1) := by decide +kernel
theorem dX10_init_37 : decode cX10_init 37 = .ok (.invokespecial 31, 3) := by decide +kernel
theorem dX10_init_40 : decode cX10_init 40 = .ok (.putfield 32, 3) := by decide +kernel
theorem dX10_init_43 : decode cX10_init 43 = .ok (.aload_n 0, 1) := by decide +kernel
theorem dX10_init_44 : decode cX10_init 44 = .ok (.new 36, 3) := by decide +kernel
theorem dX10_init_47 : decode cX10_init 47 = .ok (.dup, 1) := by decide +kernel
theorem dX10_init_48 : decode cX10_init 48 = .ok (.invokespecial 38, 3) := by decide +kernel
theorem dX10_init_51 : decode cX10_init 51 = .ok (.putfield 39, 3) := by decide +kernel
theorem dX10_init_54 : decode cX10_init 54 = .ok (.aload_n 0, 1) := by decide +kernel
theorem dX10_init_55 : decode cX10_init 55 = .ok (.new 43, 3) := by decide +kernel
theorem dX10_init_58 : decode cX10_init 58 = .ok (.dup, 1) := by decide +kernel
theorem dX10_init_59 : decode cX10_init 59 = .ok (.invokespecial 45, 3) := by decide +kernel
theorem dX10_init_62 : decode cX10_init 62 = .ok (.putfield 46, 3) := by decide +kernel
theorem dX10_init_65 : decode cX10_init 65 = .ok (.aload_n 0, 1) := by decide +kernel
theorem dX10_init_66 : decode cX10_init 66 = .ok (.new 50, 3) := by decide +kernel
theorem dX10_init_69 : decode cX10_init 69 = .ok (.dup, 1) := by decide +kernel
theorem dX10_init_70 : decode cX10_init 70 = .ok (.invokespecial 52, 3) := by decide +kernel
theorem dX10_init_73 : decode cX10_init 73 = .ok (.putfield 53, 3) := by decide +kernel
theorem dX10_init_76 : decode cX10_init 76 = .ok (.return_, 1) := by decide +kernel
theorem dX10_take_0 : decode cX10_take 0 = .ok (.aload_n 0, 1) := by decide +kernel
theorem dX10_take_1 : decode cX10_take 1 = .ok (.aload_n 1, 1) := by decide +kernel
theorem dX10_take_2 : decode cX10_take 2 = .ok (.getfield 57, 3) := by decide +kernel
theorem dX10_take_5 : decode cX10_take 5 = .ok (.putfield 57, 3) := by decide +kernel
theorem dX10_take_8 : decode cX10_take 8 = .ok (.aload_n 0, 1) := by decide +kernel
theorem dX10_take_9 : decode cX10_take 9 = .ok (.getfield 18, 3) := by decide +kernel
theorem dX10_take_12 : decode cX10_take 12 = .ok (.aload_n 1, 1) := by decide +kernel
theorem dX10_take_13 : decode cX10_take 13 = .ok (.getfield 18, 3) := by decide +kernel
theorem dX10_take_16 : decode cX10_take 16 = .ok (.invokevirtual 61, 3) := by decide +kernel
theorem dX10_take_19 : decode cX10_take 19 = .ok (.aload_n 0, 1) := by decide +kernel
theorem dX10_take_20 : decode cX10_take 20 = .ok (.getfield 25, 3) := by decide +kernel
theorem dX10_take_23 : decode cX10_take 23 = .ok (.aload_n 1, 1) := by decide +kernel
theorem dX10_take_24 : decode cX10_take 24 = .ok (.getfield 25, 3) := by decide +kernel
theorem dX10_take_27 : decode cX10_take 27 = .ok (.invokevirtual 65, 3) := by decide +kernel
theorem dX10_take_30 : decode cX10_take 30 = .ok (.aload_n 0, 1) := by decide +kernel
theorem dX10_take_31 : decode cX10_take 31 = .ok (.getfield 32, 3) := by decide +kernel
theorem dX10_take_34 : decode cX10_take 34 = .ok (.aload_n 1, 1) := by decide +kernel
theorem dX10_take_35 : decode cX10_take 35 = .ok (.getfield 32, 3) := by decide +kernel
theorem dX10_take_38 : decode cX10_take 38 = .ok (.invokevirtual 68, 3) := by decide +kernel
theorem dX10_take_41 : decode cX10_take 41 = .ok (.aload_n 0, 1) := by decide +kernel
theorem dX10_take_42 : decode cX10_take 42 = .ok (.getfield 39, 3) := by decide +kernel
theorem dX10_take_45 : decode cX10_take 45 = .ok (.aload_n 1, 1) := by decide +kernel
theorem dX10_take_46 : decode cX10_take 46 = .ok (.getfield 39, 3) := by decide +kernel
theorem dX10_take_49 : decode cX10_take 49 = .ok (.invokevirtual 71, 3) := by decide +kernel
theorem dX10_take_52 : decode cX10_take 52 = .ok (.aload_n 0, 1) := by decide +kernel
theorem dX10_take_53 : decode cX10_take 53 = .ok (.getfield 46, 3) := by decide +kernel
theorem dX10_take_56 : decode cX10_take 56 = .ok (.aload_n 1, 1) := by decide +kernel
theorem dX10_take_57 : decode cX10_take 57 = .ok (.getfield 46, 3) := by decide +kernel
theorem dX10_take_60 : decode cX10_take 60 = .ok (.invokevirtual 74, 3) := by decide +kernel
theorem dX10_take_63 : decode cX10_take 63 = .ok (.aload_n 0, 1) := by decide +kernel
theorem dX10_take_64 : decode cX10_take 64 = .ok (.getfield 53, 3) := by decide +kernel
theorem dX10_take_67 : decode cX10_take 67 = .ok (.aload_n 1, 1) := by decide +kernel
theorem dX10_take_68 : decode cX10_take 68 = .ok (.getfield 53, 3) := by decide +kernel
theorem dX10_take_71 : decode cX10_take 71 = .ok (.invokevirtual 77, 3) := by decide +kernel
theorem dX10_take_74 : decode cX10_take 74 = .ok (.return_, 1) := by decide +kernel
theorem dX11_init_0 : decode cX11_init 0 = .ok (.aload_n 0, 1) := by decide +kernel
theorem dX11_init_1 : decode cX11_init 1 = .ok (.invokespecial 1, 3) := by decide +kernel
theorem dX11_init_4 : decode cX11_init 4 = .ok (.aload_n 0, 1) := by decide +kernel
theorem dX11_init_5 : decode cX11_init 5 = .ok (.new 7, 3) := by decide +kernel
theorem dX11_init_8 : decode cX11_init 8 = .ok (.dup, 1) := by decide +kernel
theorem dX11_init_9 : decode cX11_init 9 = .ok (.iconst 2, 1) := by decide +kernel
theorem dX11_init_10 : decode cX11_init 10 = .ok (.bipush 8, 2) := by decide +kernel
theorem dX11_init_12 : decode cX11_init 12 = .ok (.iload_n 1, 1) := by decide +kernel
theorem dX11_init_13 : decode cX11_init 13 = .ok (.invokestatic 9, 3) := by decide +kernel
theorem dX11_init_16 : decode cX11_init 16 = .ok (.invokestatic 15, 3) := by decide +kernel
theorem dX11_init_19 : decode cX11_init 19 = .ok (.iconst 2, 1) := by decide +kernel
theorem dX11_init_20 : decode cX11_init 20 = .ok (.bipush 8, 2) := by decide +kernel
theorem dX11_init_22 : decode cX11_init 22 = .ok (.iload_n 2, 1) := by decide +kernel
theorem dX11_init_23 : decode cX11_init 23 = .ok (.invokestatic 9, 3) := by decide +kernel
theorem dX11_init_26 : decode cX11_init 26 = .ok (.invokestatic 15, 3) := by decide +kernel
theorem dX11_init_29 : decode cX11_init 29 = .ok (.invokespecial 18, 3) := by decide +kernel
theorem dX11_init_32 : decode cX11_init 32 = .ok (.putfield 21, 3) := by decide +kernel
theorem dX11_init_35 : decode cX11_init 35 = .ok (.aload_n 0, 1) := by decide +kernel
theorem dX11_init_36 : decode cX11_init 36 = .ok (.new 27, 3) := by decide +kernel
theorem dX11_init_39 : decode cX11_init 39 = .ok (.dup, 1) := by decide +kernel
theorem dX11_init_40 : decode cX11_init 40 = .ok (.aload_n 0, 1) := by decide +kernel
theorem dX11_init_41 : decode cX11_init 41 = .ok (.getfield 21, 3) := by decide +kernel
theorem dX11_init_44 : decode cX11_init 44 = .ok (.invokespecial 29, 3) := by decide +kernel
theorem dX11_init_47 : decode cX11_init 47 = .ok (.putfield 32, 3) := by decide +kernel
theorem dX11_init_50 : decode cX11_init 50 = .ok (.aload_n 0, 1) := by decide +kernel
theorem dX11_init_51 : decode cX11_init 51 = .ok (.new 27, 3) := by decide +kernel
theorem dX11_init_54 : decode cX11_init 54 = .ok (.dup, 1) := by decide +kernel
theorem dX11_init_55 : decode cX11_init 55 = .ok (.aload_n 0, 1) := by decide +kernel
theorem dX11_init_56 : decode cX11_init 56 = .ok (.getfield 21, 3) := by decide +kernel
theorem dX11_init_59 : decode cX11_init 59 = .ok (.invokespecial 29, 3) := by decide +kernel
theorem dX11_init_62 : decode cX11_init 62 = .ok (.putfield 36, 3) := by decide +kernel
theorem dX11_init_65 : decode cX11_init 65 = .ok (.aload_n 0, 1) := by decide +kernel
theorem dX11_init_66 : decode cX11_init 66 = .ok (.bipush 8, 2) := by decide +kernel
theorem dX11_init_68 : decode cX11_init 68 = .ok (.anewarray 39, 3) := by decide +kernel
theorem dX11_init_71 : decode cX11_init 71 = .ok (.putfield 41, 3) := by decide +kernel
theorem dX11_init_74 : decode cX11_init 74 = .ok (.iconst 0, 1) := by decide +kernel
theorem dX11_init_75 : decode cX11_init 75 = .ok (.istore_n 3, 1) := by decide +kernel
theorem dX11_init_76 : decode cX11_init 76 = .ok (.iload_n 3, 1) := by decide +kernel
theorem dX11_init_77 : decode cX11_init 77 = .ok (.bipush 8, 2) := by decide +kernel
theorem dX11_init_79 : decode cX11_init 79 = .ok (.if_icmp .ge 22, 3) := by decide +kernel
theorem dX11_init_82 : decode cX11_init 82 = .ok (.aload_n 0, 1) := by decide +kernel
theorem dX11_init_83 : decode cX11_init 83 = .ok (.getfield 41, 3) := by decide +kernel
theorem dX11_init_86 : decode cX11_init 86 = .ok (.iload_n 3, 1) := by decide +kernel
theorem dX11_init_87 : decode cX11_init 87 = .ok (.new 39, 3) := by decide +kernel
theorem dX11_init_90 : decode cX11_init 90 = .ok (.dup, 1) := by decide +kernel
theorem dX11_init_91 : decode cX11_init 91 = .ok (.invokespecial 45, 3) := by decide +kernel
theorem dX11_init_94 : decode cX11_init 94 = .ok (.aastore, 1) := by decide +kernel
theorem dX11_init_95 : decode cX11_init 95 = .ok (.iinc 3 1, 3) := by decide +kernel
theorem dX11_init_98 : decode cX11_init 98 = .ok (.goto (-22), 3) := by decide +kernel
theorem dX11_init_101 : decode cX11_init 101 = .ok (.aload_n 0, 1) := by decide +kernel
theorem dX11_init_102 : decode cX11_init 102 = .ok (.new 39, 3) := by decide +kernel
theorem dX11_init_105 : decode cX11_init 105 = .ok (.dup, 1) := by decide +kernel
theorem dX11_init_106 : decode cX11_init 106 = .ok (.invokespecial 45, 3) := by decide +kernel
theorem dX11_init_109 : decode cX11_init 109 = .ok (.putfield 46, 3) := by decide +kernel
theorem dX11_init_112 : decode cX11_init 112 = .ok (.aload_n 0, 1) := by decide +kernel
theorem dX11_init_113 : decode cX11_init 113 = .ok (.new 50, 3) := by decide +kernel
theorem dX11_init_116 : decode cX11_init 116 = .ok (.dup, 1) := by decide +kernel
theorem dX11_init_117 : decode cX11_init 117 = .ok (.invokespecial 52, 3) := by decide +kernel
theorem dX11_init_120 : decode cX11_init 120 = .ok (.putfield 53, 3) := by decide +kernel
theorem dX11_init_123 : decode cX11_init 123 = .ok (.aload_n 0, 1) := by decide +kernel
theorem dX11_init_124 : decode cX11_init 124 = .ok (.bipush 10, 2) := by decide +kernel
theorem dX11_init_126 : decode cX11_init 126 = .ok (.anewarray 57, 3) := by decide +kernel
theorem dX11_init_129 : decode cX11_init 129 = .ok (.putfield 59, 3) := by decide +kernel
theorem dX11_init_132 : decode cX11_init 132 = .ok (.iconst 0, 1) := by decide +kernel
theorem dX11_init_133 : decode cX11_init 133 = .ok (.istore_n 3, 1) := by decide +kernel
theorem dX11_init_134 : decode cX11_init 134 = .ok (.iload_n 3, 1) := by decide +kernel
theorem dX11_init_135 : decode cX11_init 135 = .ok (.bipush 10, 2) := by decide +kernel
theorem dX11_init_137 : decode cX11_init 137 = .ok (.if_icmp .ge 22, 3) := by decide +kernel
theorem dX11_init_140 : decode cX11_init 140 = .ok (.aload_n 0, 1) := by decide +kernel
theorem dX11_init_141 : decode cX11_init 141 = .ok (.getfield 59, 3) := by decide +kernel
theorem dX11_init_144 : decode cX11_init 144 = .ok (.iload_n 3, 1) := by decide +kernel
theorem dX11_init_145 : decode cX11_init 145 = .ok (.new 57, 3) := by decide +kernel
theorem dX11_init_148 : decode cX11_init 148 = .ok (.dup, 1) := by decide +kernel
theorem dX11_init_149 : decode cX11_init 149 = .ok (.invokespecial 63, 3) := by decide +kernel
theorem dX11_init_152 : decode cX11_init 152 = .ok (.aastore, 1) := by decide +kernel
theorem dX11_init_153 : decode cX11_init 153 = .ok (.iinc 3 1, 3) := by decide +kernel
theorem dX11_init_156 : decode cX11_init 156 = .ok (.goto (-22), 3) := by decide +kernel
theorem dX11_init_159 : decode cX11_init 159 = .ok (.aload_n 0, 1) := by decide +kernel
theorem dX11_init_160 : decode cX11_init 160 = .ok (.bipush 8, 2) := by decide +kernel
theorem dX11_init_162 : decode cX11_init 162 = .ok (.newarray .int, 2) := by decide +kernel
theorem dX11_init_164 : decode cX11_init 164 = .ok (.putfield 64, 3) := by decide +kernel
theorem dX11_init_167 : decode cX11_init 167 = .ok (.aload_n 0, 1) := by decide +kernel
theorem dX11_init_168 : decode cX11_init 168 = .ok (.sipush 300, 3) := by decide +kernel
theorem dX11_init_171 : decode cX11_init 171 = .ok (.newarray .int, 2) := by decide +kernel
theorem dX11_init_173 : decode cX11_init 173 = .ok (.putfield 68, 3) := by decide +kernel
theorem dX11_init_176 : decode cX11_init 176 = .ok (.aload_n 0, 1) := by decide +kernel
theorem dX11_init_177 : decode cX11_init 177 = .ok (.bipush 60, 2) := by decide +kernel
theorem dX11_init_179 : decode cX11_init 179 = .ok (.newarray .boolean, 2) := by decide +kernel
theorem dX11_init_181 : decode cX11_init 181 = .ok (.putfield 73, 3) := by decide +kernel
theorem dX11_init_184 : decode cX11_init 184 = .ok (.return_, 1) := by decide +kernel
theorem dX11_cell_0 : decode cX11_cell 0 = .ok (.aload_n 0, 1) := by decide +kernel
theorem dX11_cell_1 : decode cX11_cell 1 = .ok (.getfield 32, 3) := by decide +kernel
theorem dX11_cell_4 : decode cX11_cell 4 = .ok (.getfield 77, 3) := by decide +kernel
theorem dX11_cell_7 : decode cX11_cell 7 = .ok (.ifCond .ne 23, 3) := by decide +kernel
theorem dX11_cell_10 : decode cX11_cell 10 = .ok (.aload_n 0, 1) := by decide +kernel
theorem dX11_cell_11 : decode cX11_cell 11 = .ok (.getfield 21, 3) := by decide +kernel
theorem dX11_cell_14 : decode cX11_cell 14 = .ok (.iload_n 1, 1) := by decide +kernel
theorem dX11_cell_15 : decode cX11_cell 15 = .ok (.invokevirtual 81, 3) := by decide +kernel
theorem dX11_cell_18 : decode cX11_cell 18 = .ok (.ifCond .eq 12, 3) := by decide +kernel
theorem dX11_cell_21 : decode cX11_cell 21 = .ok (.iload_n 2, 1) := by decide +kernel
theorem dX11_cell_22 : decode cX11_cell 22 = .ok (.iconst 0, 1) := by decide +kernel
theorem dX11_cell_23 : decode cX11_cell 23 = .ok (.iconst 4, 1) := by decide +kernel
theorem dX11_cell_24 : decode cX11_cell 24 = .ok (.invokestatic 85, 3) := by decide +kernel
theorem dX11_cell_27 : decode cX11_cell 27 = .ok (.ifCond .ne 5, 3) := by decide +kernel
theorem dX11_cell_30 : decode cX11_cell 30 = .ok (.iconst 0, 1) := by decide +kernel
theorem dX11_cell_31 : decode cX11_cell 31 = .ok (.ireturn, 1) := by decide +kernel
theorem dX11_cell_32 : decode cX11_cell 32 = .ok (.iload_n 2, 1) := by decide +kernel
theorem dX11_cell_33 : decode cX11_cell 33 = .ok (.iconst 1, 1) := by decide +kernel
theorem dX11_cell_34 : decode cX11_cell 34 = .ok (.if_icmp .eq 8, 3) := by decide +kernel
theorem dX11_cell_37 : decode cX11_cell 37 = .ok (.iload_n 2, 1) := by decide +kernel
theorem dX11_cell_38 : decode cX11_cell 38 = .ok (.iconst 2, 1) := by decide +kernel
theorem dX11_cell_39 : decode cX11_cell 39 = .ok (.if_icmp .ne 7, 3) := by decide +kernel
theorem dX11_cell_42 : decode cX11_cell 42 = .ok (.iconst 1, 1) := by decide +kernel
theorem dX11_cell_43 : decode cX11_cell 43 = .ok (.goto 4, 3) := by decide +kernel
theorem dX11_cell_46 : decode cX11_cell 46 = .ok (.iconst 0, 1) := by decide +kernel
theorem dX11_cell_47 : decode cX11_cell 47 = .ok (.istore 4, 2) := by decide +kernel
theorem dX11_cell_49 : decode cX11_cell 49 = .ok (.iload 4, 2) := by decide +kernel
theorem dX11_cell_51 : decode cX11_cell 51 = .ok (.ifCond .eq 17, 3) := by decide +kernel
theorem dX11_cell_54 : decode cX11_cell 54 = .ok (.iload_n 3, 1) := by decide +kernel
theorem dX11_cell_55 : decode cX11_cell 55 = .ok (.iconst 1, 1) := by decide +kernel
theorem dX11_cell_56 : decode cX11_cell 56 = .ok (.sipush 999, 3) := by decide +kernel
theorem dX11_cell_59 : decode cX11_cell 59 = .ok (.invokestatic 85, 3) := by decide +kernel
theorem dX11_cell_62 : decode cX11_cell 62 = .ok (.ifCond .ne 12, 3) := by decide +kernel
theorem dX11_cell_65 : decode cX11_cell 65 = .ok (.goto 7, 3) := by decide +kernel
theorem dX11_cell_68 : decode cX11_cell 68 = .ok (.iload_n 3, 1) := by decide +kernel
theorem dX11_cell_69 : decode cX11_cell 69 = .ok (.ifCond .eq 5, 3) := by decide +kernel
theorem dX11_cell_72 : decode cX11_cell 72 = .ok (.iconst 0, 1) := by decide +kernel
theorem dX11_cell_73 : decode cX11_cell 73 = .ok (.ireturn, 1) := by decide +kernel
theorem dX11_cell_74 : decode cX11_cell 74 = .ok (.aload_n 0, 1) := by decide +kernel
theorem dX11_cell_75 : decode cX11_cell 75 = .ok (.getfield 32, 3) := by decide +kernel
theorem dX11_cell_78 : decode cX11_cell 78 = .ok (.getfield 89, 3) := by decide +kernel
theorem dX11_cell_81 : decode cX11_cell 81 = .ok (.iload_n 1, 1) := by decide +kernel
theorem dX11_cell_82 : decode cX11_cell 82 = .ok (.iload_n 2, 1) := by decide +kernel
theorem dX11_cell_83 : decode cX11_cell 83 = .ok (.iload_n 3, 1) := by decide +kernel
theorem dX11_cell_84 : decode cX11_cell 84 = .ok (.invokevirtual 93, 3) := by decide +kernel
theorem dX11_cell_87 : decode cX11_cell 87 = .ok (.aload_n 0, 1) := by decide +kernel
theorem dX11_cell_88 : decode cX11_cell 88 = .ok (.iconst 0, 1) := by decide +kernel
theorem dX11_cell_89 : decode cX11_cell 89 = .ok (.invokevirtual 99, 3) := by decide +kernel
theorem dX11_cell_92 : decode cX11_cell 92 = .ok (.iconst 1, 1) := by decide +kernel
theorem dX11_cell_93 : decode cX11_cell 93 = .ok (.ireturn, 1) := by decide +kernel
theorem dX11_rules_0 : decode cX11_rules 0 = .ok (.iload_n 1, 1) := by decide +kernel
theorem dX11_rules_1 : decode cX11_rules 1 = .ok (.iconst 1, 1) := by decide +kernel
theorem dX11_rules_2 : decode cX11_rules 2 = .ok (.bipush 20, 2) := by decide +kernel
theorem dX11_rules_4 : decode cX11_rules 4 = .ok (.invokestatic 85, 3) := by decide +kernel
theorem dX11_rules_7 : decode cX11_rules 7 = .ok (.ifCond .eq 23, 3) := by decide +kernel
theorem dX11_rules_10 : decode cX11_rules 10 = .ok (.iload_n 2, 1) := by decide +kernel
theorem dX11_rules_11 : decode cX11_rules 11 = .ok (.iconst 1, 1) := by decide +kernel
theorem dX11_rules_12 : decode cX11_rules 12 = .ok (.bipush 99, 2) := by decide +kernel
theorem dX11_rules_14 : decode cX11_rules 14 = .ok (.invokestatic 85, 3) := by decide +kernel
theorem dX11_rules_17 : decode cX11_rules 17 = .ok (.ifCond .eq 13, 3) := by decide +kernel
theorem dX11_rules_20 : decode cX11_rules 20 = .ok (.iload_n 3, 1) := by decide +kernel
theorem dX11_rules_21 : decode cX11_rules 21 = .ok (.iconst 0, 1) := by decide +kernel
theorem dX11_rules_22 : decode cX11_rules 22 = .ok (.bipush 30, 2) := by decide +kernel
theorem dX11_rules_24 : decode cX11_rules 24 = .ok (.invokestatic 85, 3) := by decide +kernel
theorem dX11_rules_27 : decode cX11_rules 27 = .ok (.ifCond .ne 5, 3) := by decide +kernel
theorem dX11_rules_30 : decode cX11_rules 30 = .ok (.iconst 0, 1) := by decide +kernel
theorem dX11_rules_31 : decode cX11_rules 31 = .ok (.ireturn, 1) := by decide +kernel
theorem dX11_rules_32 : decode cX11_rules 32 = .ok (.aload_n 0, 1) := by decide +kernel
theorem dX11_rules_33 : decode cX11_rules 33 = .ok (.getfield 32, 3) := by decide +kernel
theorem dX11_rules_36 : decode cX11_rules 36 = .ok (.getfield 89, 3) := by decide +kernel
theorem dX11_rules_39 : decode cX11_rules 39 = .ok (.iload_n 1, 1) := by decide +kernel
theorem dX11_rules_40 : decode cX11_rules 40 = .ok (.putfield 103, 3) := by decide +kernel
theorem dX11_rules_43 : decode cX11_rules 43 = .ok (.aload_n 0, 1) := by decide +kernel
theorem dX11_rules_44 : decode cX11_rules 44 = .ok (.getfield 32, 3) := by decide +kernel
theorem dX11_rules_47 : decode cX11_rules 47 = .ok (.getfield 89, 3) := by decide +kernel
theorem dX11_rules_50 : decode cX11_rules 50 = .ok (.iload_n 2, 1) := by decide +kernel
theorem dX11_rules_51 : decode cX11_rules 51 = .ok (.putfield 106, 3) := by decide +kernel
theorem dX11_rules_54 : decode cX11_rules 54 = .ok (.aload_n 0, 1) := by decide +kernel
theorem dX11_rules_55 : decode cX11_rules 55 = .ok (.getfield 32, 3) := by decide +kernel
theorem dX11_rules_58 : decode cX11_rules 58 = .ok (.getfield 89, 3) := by decide +kernel
theorem dX11_rules_61 : decode cX11_rules 61 = .ok (.iload_n 3, 1) := by decide +kernel
theorem dX11_rules_62 : decode cX11_rules 62 = .ok (.putfield 109, 3) := by decide +kernel
theorem dX11_rules_65 : decode cX11_rules 65 = .ok (.aload_n 0, 1) := by decide +kernel
theorem dX11_rules_66 : decode cX11_rules 66 = .ok (.iconst 0, 1) := by decide +kernel
theorem dX11_rules_67 : decode cX11_rules 67 = .ok (.invokevirtual 99, 3) := by decide +kernel
theorem dX11_rules_70 : decode cX11_rules 70 = .ok (.iconst 1, 1) := by decide +kernel
theorem dX11_rules_71 : decode cX11_rules 71 = .ok (.ireturn, 1) := by decide +kernel
theorem dX11_hole_0 : decode cX11_hole 0 = .ok (.aload_n 0, 1) := by decide +kernel
theorem dX11_hole_1 : decode cX11_hole 1 = .ok (.getfield 21, 3) := by decide +kernel
theorem dX11_hole_4 : decode cX11_hole 4 = .ok (.iload_n 1, 1) := by decide +kernel
theorem dX11_hole_5 : decode cX11_hole 5 = .ok (.invokevirtual 81, 3) := by decide +kernel
theorem dX11_hole_8 : decode cX11_hole 8 = .ok (.ifCond .eq 30, 3) := by decide +kernel
theorem dX11_hole_11 : decode cX11_hole 11 = .ok (.aload_n 0, 1) := by decide +kernel
theorem dX11_hole_12 : decode cX11_hole 12 = .ok (.getfield 32, 3) := by decide +kernel
theorem dX11_hole_15 : decode cX11_hole 15 = .ok (.getfield 77, 3) := by decide +kernel
theorem dX11_hole_18 : decode cX11_hole 18 = .ok (.bipush 100, 2) := by decide +kernel
theorem dX11_hole_20 : decode cX11_hole 20 = .ok (.if_icmp .ge 18, 3) := by decide +kernel
theorem dX11_hole_23 : decode cX11_hole 23 = .ok (.aload_n 0, 1) := by decide +kernel
theorem dX11_hole_24 : decode cX11_hole 24 = .ok (.getfield 32, 3) := by decide +kernel
theorem dX11_hole_27 : decode cX11_hole 27 = .ok (.getfield 112, 3) := by decide +kernel
theorem dX11_hole_30 : decode cX11_hole 30 = .ok (.getfield 116, 3) := by decide +kernel
theorem dX11_hole_33 : decode cX11_hole 33 = .ok (.bipush 20, 2) := by decide +kernel
theorem dX11_hole_35 : decode cX11_hole 35 = .ok (.if_icmp .lt 5, 3) := by decide +kernel
theorem dX11_hole_38 : decode cX11_hole 38 = .ok (.iconst (-1), 1) := by decide +kernel
theorem dX11_hole_39 : decode cX11_hole 39 = .ok (.ireturn, 1) := by decide +kernel
theorem dX11_hole_40 : decode cX11_hole 40 = .ok (.aload_n 0, 1) := by decide +kernel
theorem dX11_hole_41 : decode cX11_hole 41 = .ok (.aload_n 0, 1) := by decide +kernel
theorem dX11_hole_42 : decode cX11_hole 42 = .ok (.getfield 32, 3) := by decide +kernel
theorem dX11_hole_45 : decode cX11_hole 45 = .ok (.getfield 77, 3) := by decide +kernel
theorem dX11_hole_48 : decode cX11_hole 48 = .ok (.iconst 1, 1) := by decide +kernel
theorem dX11_hole_49 : decode cX11_hole 49 = .ok (.iadd, 1) := by decide +kernel
theorem dX11_hole_50 : decode cX11_hole 50 = .ok (.invokevirtual 99, 3) := by decide +kernel
theorem dX11_hole_53 : decode cX11_hole 53 = .ok (.aload_n 0, 1) := by decide +kernel
theorem dX11_hole_54 : decode cX11_hole 54 = .ok (.getfield 32, 3) := by decide +kernel
theorem dX11_hole_57 : decode cX11_hole 57 = .ok (.getfield 112, 3) := by decide +kernel
theorem dX11_hole_60 : decode cX11_hole 60 = .ok (.iload_n 1, 1) := by decide +kernel
theorem dX11_hole_61 : decode cX11_hole 61 = .ok (.aload_n 0, 1) := by decide +kernel
theorem dX11_hole_62 : decode cX11_hole 62 = .ok (.getfield 32, 3) := by decide +kernel
theorem dX11_hole_65 : decode cX11_hole 65 = .ok (.getfield 77, 3) := by decide +kernel
theorem dX11_hole_68 : decode cX11_hole 68 = .ok (.invokevirtual 121, 3) := by decide +kernel
theorem dX11_hole_71 : decode cX11_hole 71 = .ok (.ireturn, 1) := by decide +kernel
theorem dX11_plug_0 : decode cX11_plug 0 = .ok (.aload_n 0, 1) := by decide +kernel
theorem dX11_plug_1 : decode cX11_plug 1 = .ok (.getfield 32, 3) := by decide +kernel
theorem dX11_plug_4 : decode cX11_plug 4 = .ok (.getfield 112, 3) := by decide +kernel
theorem dX11_plug_7 : decode cX11_plug 7 = .ok (.iload_n 1, 1) := by decide +kernel
theorem dX11_plug_8 : decode cX11_plug 8 = .ok (.invokevirtual 124, 3) := by decide +kernel
theorem dX11_plug_11 : decode cX11_plug 11 = .ok (.ifCond .eq 19, 3) := by decide +kernel
theorem dX11_plug_14 : decode cX11_plug 14 = .ok (.aload_n 0, 1) := by decide +kernel
theorem dX11_plug_15 : decode cX11_plug 15 = .ok (.getfield 32, 3) := by decide +kernel
theorem dX11_plug_18 : decode cX11_plug 18 = .ok (.getfield 112, 3) := by decide +kernel
theorem dX11_plug_21 : decode cX11_plug 21 = .ok (.getfield 127, 3) := by decide +kernel
theorem dX11_plug_24 : decode cX11_plug 24 = .ok (.iload_n 1, 1) := by decide +kernel
theorem dX11_plug_25 : decode cX11_plug 25 = .ok (.iaload, 1) := by decide +kernel
theorem dX11_plug_26 : decode cX11_plug 26 = .ok (.iconst (-1), 1) := by decide +kernel
theorem dX11_plug_27 : decode cX11_plug 27 = .ok (.if_icmp .eq 5, 3) := by decide +kernel
theorem dX11_plug_30 : decode cX11_plug 30 = .ok (.iconst 0, 1) := by decide +kernel
theorem dX11_plug_31 : decode cX11_plug 31 = .ok (.ireturn, 1) := by decide +kernel
theorem dX11_plug_32 : decode cX11_plug 32 = .ok (.aload_n 0, 1) := by decide +kernel
theorem dX11_plug_33 : decode cX11_plug 33 = .ok (.getfield 32, 3) := by decide +kernel
theorem dX11_plug_36 : decode cX11_plug 36 = .ok (.getfield 112, 3) := by decide +kernel
theorem dX11_plug_39 : decode cX11_plug 39 = .ok (.iload_n 1, 1) := by decide +kernel
theorem dX11_plug_40 : decode cX11_plug 40 = .ok (.aload_n 0, 1) := by decide +kernel
theorem dX11_plug_41 : decode cX11_plug 41 = .ok (.getfield 32, 3) := by decide +kernel
theorem dX11_plug_44 : decode cX11_plug 44 = .ok (.getfield 77, 3) := by decide +kernel
theorem dX11_plug_47 : decode cX11_plug 47 = .ok (.invokevirtual 130, 3) := by decide +kernel
theorem dX11_plug_50 : decode cX11_plug 50 = .ok (.aload_n 0, 1) := by decide +kernel
theorem dX11_plug_51 : decode cX11_plug 51 = .ok (.aload_n 0, 1) := by decide +kernel
theorem dX11_plug_52 : decode cX11_plug 52 = .ok (.getfield 32, 3) := by decide +kernel
theorem dX11_plug_55 : decode cX11_plug 55 = .ok (.getfield 77, 3) := by decide +kernel
theorem dX11_plug_58 : decode cX11_plug 58 = .ok (.iconst 1, 1) := by decide +kernel
theorem dX11_plug_59 : decode cX11_plug 59 = .ok (.iadd, 1) := by decide +kernel
theorem dX11_plug_60 : decode cX11_plug 60 = .ok (.invokevirtual 99, 3) := by decide +kernel
theorem dX11_plug_63 : decode cX11_plug 63 = .ok (.iconst 1, 1) := by decide +kernel
theorem dX11_plug_64 : decode cX11_plug 64 = .ok (.ireturn, 1) := by decide +kernel
theorem dX11_pour_0 : decode cX11_pour 0 = .ok (.aload_n 0, 1) := by decide +kernel
theorem dX11_pour_1 : decode cX11_pour 1 = .ok (.iload_n 1, 1) := by decide +kernel
theorem dX11_pour_2 : decode cX11_pour 2 = .ok (.invokevirtual 133, 3) := by decide +kernel
theorem dX11_pour_5 : decode cX11_pour 5 = .ok (.ifCond .eq 41, 3) := by decide +kernel
theorem dX11_pour_8 : decode cX11_pour 8 = .ok (.iload_n 2, 1) := by decide +kernel
theorem dX11_pour_9 : decode cX11_pour 9 = .ok (.iconst 1, 1) := by decide +kernel
theorem dX11_pour_10 : decode cX11_pour 10 = .ok (.sipush 1000, 3) := by decide +kernel
theorem dX11_pour_13 : decode cX11_pour 13 = .ok (.invokestatic 85, 3) := by decide +kernel
theorem dX11_pour_16 : decode cX11_pour 16 = .ok (.ifCond .eq 30, 3) := by decide +kernel
theorem dX11_pour_19 : decode cX11_pour 19 = .ok (.aload_n 0, 1) := by decide +kernel
theorem dX11_pour_20 : decode cX11_pour 20 = .ok (.getfield 32, 3) := by decide +kernel
theorem dX11_pour_23 : decode cX11_pour 23 = .ok (.getfield 77, 3) := by decide +kernel
theorem dX11_pour_26 : decode cX11_pour 26 = .ok (.bipush 100, 2) := by decide +kernel
theorem dX11_pour_28 : decode cX11_pour 28 = .ok (.if_icmp .ge 18, 3) := by decide +kernel
theorem dX11_pour_31 : decode cX11_pour 31 = .ok (.aload_n 0, 1) := by decide +kernel
theorem dX11_pour_32 : decode cX11_pour 32 = .ok (.getfield 32, 3) := by decide +kernel
theorem dX11_pour_35 : decode cX11_pour 35 = .ok (.getfield 89, 3) := by decide +kernel
theorem dX11_pour_38 : decode cX11_pour 38 = .ok (.getfield 136, 3) := by decide +kernel
theorem dX11_pour_41 : decode cX11_pour 41 = .ok (.bipush 40, 2) := by decide +kernel
theorem dX11_pour_43 : decode cX11_pour 43 = .ok (.if_icmp .lt 5, 3) := by decide +kernel
theorem dX11_pour_46 : decode cX11_pour 46 = .ok (.iconst (-1), 1) := by decide +kernel
theorem dX11_pour_47 : decode cX11_pour 47 = .ok (.ireturn, 1) := by decide +kernel
theorem dX11_pour_48 : decode cX11_pour 48 = .ok (.aload_n 0, 1) := by decide +kernel
theorem dX11_pour_49 : decode cX11_pour 49 = .ok (.aload_n 0, 1) := by decide +kernel
theorem dX11_pour_50 : decode cX11_pour 50 = .ok (.getfield 32, 3) := by decide +kernel
theorem dX11_pour_53 : decode cX11_pour 53 = .ok (.getfield 77, 3) := by decide +kernel
theorem dX11_pour_56 : decode cX11_pour 56 = .ok (.iconst 1, 1) := by decide +kernel
theorem dX11_pour_57 : decode cX11_pour 57 = .ok (.iadd, 1) := by decide +kernel
theorem dX11_pour_58 : decode cX11_pour 58 = .ok (.invokevirtual 99, 3) := by decide +kernel
theorem dX11_pour_61 : decode cX11_pour 61 = .ok (.aload_n 0, 1) := by decide +kernel
theorem dX11_pour_62 : decode cX11_pour 62 = .ok (.getfield 32, 3) := by decide +kernel
theorem dX11_pour_65 : decode cX11_pour 65 = .ok (.getfield 89, 3) := by decide +kernel
theorem dX11_pour_68 : decode cX11_pour 68 = .ok (.iload_n 1, 1) := by decide +kernel
theorem dX11_pour_69 : decode cX11_pour 69 = .ok (.iload_n 2, 1) := by decide +kernel
theorem dX11_pour_70 : decode cX11_pour 70 = .ok (.aload_n 0, 1) := by decide +kernel
theorem dX11_pour_71 : decode cX11_pour 71 = .ok (.getfield 32, 3) := by decide +kernel
theorem dX11_pour_74 : decode cX11_pour 74 = .ok (.getfield 77, 3) := by decide +kernel
theorem dX11_pour_77 : decode cX11_pour 77 = .ok (.invokevirtual 139, 3) := by decide +kernel
theorem dX11_pour_80 : decode cX11_pour 80 = .ok (.ireturn, 1) := by decide +kernel
theorem dX11_fill_0 : decode cX11_fill 0 = .ok (.aload_n 0, 1) := by decide +kernel
theorem dX11_fill_1 : decode cX11_fill 1 = .ok (.getfield 21, 3) := by decide +kernel
theorem dX11_fill_4 : decode cX11_fill 4 = .ok (.iload_n 1, 1) := by decide +kernel
theorem dX11_fill_5 : decode cX11_fill 5 = .ok (.invokevirtual 81, 3) := by decide +kernel
theorem dX11_fill_8 : decode cX11_fill 8 = .ok (.ifCond .eq 18, 3) := by decide +kernel
theorem dX11_fill_11 : decode cX11_fill 11 = .ok (.aload_n 0, 1) := by decide +kernel
theorem dX11_fill_12 : decode cX11_fill 12 = .ok (.getfield 32, 3) := by decide +kernel
theorem dX11_fill_15 : decode cX11_fill 15 = .ok (.getfield 89, 3) := by decide +kernel
theorem dX11_fill_18 : decode cX11_fill 18 = .ok (.getfield 143, 3) := by decide +kernel
theorem dX11_fill_21 : decode cX11_fill 21 = .ok (.iload_n 1, 1) := by decide +kernel
theorem dX11_fill_22 : decode cX11_fill 22 = .ok (.iaload, 1) := by decide +kernel
theorem dX11_fill_23 : decode cX11_fill 23 = .ok (.goto 4, 3) := by decide +kernel
theorem dX11_fill_26 : decode cX11_fill 26 = .ok (.iconst (-1), 1) := by decide +kernel
theorem dX11_fill_27 : decode cX11_fill 27 = .ok (.ireturn, 1) := by decide +kernel
theorem dX11_trench_0 : decode cX11_trench 0 = .ok (.aload_n 0, 1) := by decide +kernel
theorem dX11_trench_1 : decode cX11_trench 1 = .ok (.getfield 21, 3) := by decide +kernel
theorem dX11_trench_4 : decode cX11_trench 4 = .ok (.iload_n 1, 1) := by decide +kernel
theorem dX11_trench_5 : decode cX11_trench 5 = .ok (.invokevirtual 81, 3) := by decide +kernel
theorem dX11_trench_8 : decode cX11_trench 8 = .ok (.ifCond .eq 33, 3) := by decide +kernel
theorem dX11_trench_11 : decode cX11_trench 11 = .ok (.iload_n 2, 1) := by decide +kernel
theorem dX11_trench_12 : decode cX11_trench 12 = .ok (.iconst 0, 1) := by decide +kernel
theorem dX11_trench_13 : decode cX11_trench 13 = .ok (.iconst 3, 1) := by decide +kernel
theorem dX11_trench_14 : decode cX11_trench 14 = .ok (.invokestatic 85, 3) := by decide +kernel
theorem dX11_trench_17 : decode cX11_trench 17 = .ok (.ifCond .eq 24, 3) := by decide +kernel
theorem dX11_trench_20 : decode cX11_trench 20 = .ok (.iload_n 3, 1) := by decide +kernel
theorem dX11_trench_21 : decode cX11_trench 21 = .ok (.iconst 1, 1) := by decide +kernel
theorem dX11_trench_22 : decode cX11_trench 22 = .ok (.bipush 8, 2) := by decide +kernel
theorem dX11_trench_24 : decode cX11_trench 24 = .ok (.invokestatic 85, 3) := by decide +kernel
theorem dX11_trench_27 : decode cX11_trench 27 = .ok (.ifCond .eq 14, 3) := by decide +kernel
theorem dX11_trench_30 : decode cX11_trench 30 = .ok (.iload 4, 2) := by decide +kernel
theorem dX11_trench_32 : decode cX11_trench 32 = .ok (.iconst 1, 1) := by decide +kernel
theorem dX11_trench_33 : decode cX11_trench 33 = .ok (.bipush 8, 2) := by decide +kernel
theorem dX11_trench_35 : decode cX11_trench 35 = .ok (.invokestatic 85, 3) := by decide +kernel
theorem dX11_trench_38 : decode cX11_trench 38 = .ok (.ifCond .ne 5, 3) := by decide +kernel
theorem dX11_trench_41 : decode cX11_trench 41 = .ok (.iconst (-1), 1) := by decide +kernel
theorem dX11_trench_42 : decode cX11_trench 42 = .ok (.ireturn, 1) := by decide +kernel
theorem dX11_trench_43 : decode cX11_trench 43 = .ok (.aload_n 0, 1) := by decide +kernel
theorem dX11_trench_44 : decode cX11_trench 44 = .ok (.getfield 21, 3) := by decide +kernel
theorem dX11_trench_47 : decode cX11_trench 47 = .ok (.iload_n 1, 1) := by decide +kernel
theorem dX11_trench_48 : decode cX11_trench 48 = .ok (.iload_n 2, 1) := by decide +kernel
theorem dX11_trench_49 : decode cX11_trench 49 = .ok (.iload_n 3, 1) := by decide +kernel
theorem dX11_trench_50 : decode cX11_trench 50 = .ok (.invokevirtual 146, 3) := by decide +kernel
theorem dX11_trench_53 : decode cX11_trench 53 = .ok (.ifCond .eq 30, 3) := by decide +kernel
theorem dX11_trench_56 : decode cX11_trench 56 = .ok (.aload_n 0, 1) := by decide +kernel
theorem dX11_trench_57 : decode cX11_trench 57 = .ok (.getfield 32, 3) := by decide +kernel
theorem dX11_trench_60 : decode cX11_trench 60 = .ok (.getfield 77, 3) := by decide +kernel
theorem dX11_trench_63 : decode cX11_trench 63 = .ok (.bipush 100, 2) := by decide +kernel
theorem dX11_trench_65 : decode cX11_trench 65 = .ok (.if_icmp .ge 18, 3) := by decide +kernel
theorem dX11_trench_68 : decode cX11_trench 68 = .ok (.aload_n 0, 1) := by decide +kernel
theorem dX11_trench_69 : decode cX11_trench 69 = .ok (.getfield 32, 3) := by decide +kernel
theorem dX11_trench_72 : decode cX11_trench 72 = .ok (.getfield 112, 3) := by decide +kernel
theorem dX11_trench_75 : decode cX11_trench 75 = .ok (.getfield 149, 3) := by decide +kernel
theorem dX11_trench_78 : decode cX11_trench 78 = .ok (.bipush 10, 2) := by decide +kernel
theorem dX11_trench_80 : decode cX11_trench 80 = .ok (.if_icmp .lt 5, 3) := by decide +kernel
theorem dX11_trench_83 : decode cX11_trench 83 = .ok (.iconst (-1), 1) := by decide +kernel
theorem dX11_trench_84 : decode cX11_trench 84 = .ok (.ireturn, 1) := by decide +kernel
theorem dX11_trench_85 : decode cX11_trench 85 = .ok (.aload_n 0, 1) := by decide +kernel
theorem dX11_trench_86 : decode cX11_trench 86 = .ok (.aload_n 0, 1) := by decide +kernel
theorem dX11_trench_87 : decode cX11_trench 87 = .ok (.getfield 32, 3) := by decide +kernel
theorem dX11_trench_90 : decode cX11_trench 90 = .ok (.getfield 77, 3) := by decide +kernel
theorem dX11_trench_93 : decode cX11_trench 93 = .ok (.invokevirtual 99, 3) := by decide +kernel
theorem dX11_trench_96 : decode cX11_trench 96 = .ok (.aload_n 0, 1) := by decide +kernel
theorem dX11_trench_97 : decode cX11_trench 97 = .ok (.getfield 32, 3) := by decide +kernel
theorem dX11_trench_100 : decode cX11_trench 100 = .ok (.getfield 112, 3) := by decide +kernel
theorem dX11_trench_103 : decode cX11_trench 103 = .ok (.iload_n 1, 1) := by decide +kernel
theorem dX11_trench_104 : decode cX11_trench 104 = .ok (.aload_n 0, 1) := by decide +kernel
theorem dX11_trench_105 : decode cX11_trench 105 = .ok (.getfield 21, 3) := by decide +kernel
theorem dX11_trench_108 : decode cX11_trench 108 = .ok (.iload_n 2, 1) := by decide +kernel
theorem dX11_trench_109 : decode cX11_trench 109 = .ok (.invokevirtual 152, 3) := by decide +kernel
theorem dX11_trench_112 : decode cX11_trench 112 = .ok (.iload_n 3, 1) := by decide +kernel
theorem dX11_trench_113 : decode cX11_trench 113 = .ok (.iload 4, 2) := by decide +kernel
theorem dX11_trench_115 : decode cX11_trench 115 = .ok (.aload_n 0, 1) := by decide +kernel
theorem dX11_trench_116 : decode cX11_trench 116 = .ok (.getfield 32, 3) := by decide +kernel
theorem dX11_trench_119 : decode cX11_trench 119 = .ok (.getfield 77, 3) := by decide +kernel
theorem dX11_trench_122 : decode cX11_trench 122 = .ok (.invokevirtual 156, 3) := by decide +kernel
theorem dX11_trench_125 : decode cX11_trench 125 = .ok (.ireturn, 1) := by decide +kernel
theorem dX11_state_0 : decode cX11_state 0 = .ok (.aload_n 0, 1) := by decide +kernel
theorem dX11_state_1 : decode cX11_state 1 = .ok (.getfield 21, 3) := by decide +kernel
theorem dX11_state_4 : decode cX11_state 4 = .ok (.iload_n 1, 1) := by decide +kernel
theorem dX11_state_5 : decode cX11_state 5 = .ok (.invokevirtual 81, 3) := by decide +kernel
theorem dX11_state_8 : decode cX11_state 8 = .ok (.ifCond .eq 25, 3) := by decide +kernel
theorem dX11_state_11 : decode cX11_state 11 = .ok (.iload_n 2, 1) := by decide +kernel
theorem dX11_state_12 : decode cX11_state 12 = .ok (.invokestatic 160, 3) := by decide +kernel
theorem dX11_state_15 : decode cX11_state 15 = .ok (.ifCond .eq 18, 3) := by decide +kernel
theorem dX11_state_18 : decode cX11_state 18 = .ok (.aload_n 0, 1) := by decide +kernel
theorem dX11_state_19 : decode cX11_state 19 = .ok (.getfield 32, 3) := by decide +kernel
theorem dX11_state_22 : decode cX11_state 22 = .ok (.getfield 163, 3) := by decide +kernel
theorem dX11_state_25 : decode cX11_state 25 = .ok (.getfield 167, 3) := by decide +kernel
theorem dX11_state_28 : decode cX11_state 28 = .ok (.bipush 8, 2) := by decide +kernel
theorem dX11_state_30 : decode cX11_state 30 = .ok (.if_icmp .lt 5, 3) := by decide +kernel
theorem dX11_state_33 : decode cX11_state 33 = .ok (.iconst (-1), 1) := by decide +kernel
theorem dX11_state_34 : decode cX11_state 34 = .ok (.ireturn, 1) := by decide +kernel
theorem dX11_state_35 : decode cX11_state 35 = .ok (.aload_n 0, 1) := by decide +kernel
theorem dX11_state_36 : decode cX11_state 36 = .ok (.getfield 32, 3) := by decide +kernel
theorem dX11_state_39 : decode cX11_state 39 = .ok (.getfield 89, 3) := by decide +kernel
theorem dX11_state_42 : decode cX11_state 42 = .ok (.getfield 172, 3) := by decide +kernel
theorem dX11_state_45 : decode cX11_state 45 = .ok (.iload_n 1, 1) := by decide +kernel
theorem dX11_state_46 : decode cX11_state 46 = .ok (.iaload, 1) := by decide +kernel
theorem dX11_state_47 : decode cX11_state 47 = .ok (.istore_n 3, 1) := by decide +kernel
theorem dX11_state_48 : decode cX11_state 48 = .ok (.iload_n 3, 1) := by decide +kernel
theorem dX11_state_49 : decode cX11_state 49 = .ok (.iconst 1, 1) := by decide +kernel
theorem dX11_state_50 : decode cX11_state 50 = .ok (.if_icmp .eq 10, 3) := by decide +kernel
theorem dX11_state_53 : decode cX11_state 53 = .ok (.iload_n 3, 1) := by decide +kernel
theorem dX11_state_54 : decode cX11_state 54 = .ok (.iconst 2, 1) := by decide +kernel
theorem dX11_state_55 : decode cX11_state 55 = .ok (.if_icmp .eq 5, 3) := by decide +kernel
theorem dX11_state_58 : decode cX11_state 58 = .ok (.iconst (-1), 1) := by decide +kernel
theorem dX11_state_59 : decode cX11_state 59 = .ok (.ireturn, 1) := by decide +kernel
theorem dX11_state_60 : decode cX11_state 60 = .ok (.aload_n 0, 1) := by decide +kernel
theorem dX11_state_61 : decode cX11_state 61 = .ok (.getfield 32, 3) := by decide +kernel
theorem dX11_state_64 : decode cX11_state 64 = .ok (.getfield 163, 3) := by decide +kernel
theorem dX11_state_67 : decode cX11_state 67 = .ok (.iload_n 1, 1) := by decide +kernel
theorem dX11_state_68 : decode cX11_state 68 = .ok (.iload_n 2, 1) := by decide +kernel
theorem dX11_state_69 : decode cX11_state 69 = .ok (.invokevirtual 175, 3) := by decide +kernel
theorem dX11_state_72 : decode cX11_state 72 = .ok (.istore 4, 2) := by decide +kernel
theorem dX11_state_74 : decode cX11_state 74 = .ok (.aload_n 0, 1) := by decide +kernel
theorem dX11_state_75 : decode cX11_state 75 = .ok (.getfield 41, 3) := by decide +kernel
theorem dX11_state_78 : decode cX11_state 78 = .ok (.iload 4, 2) := by decide +kernel
theorem dX11_state_80 : decode cX11_state 80 = .ok (.aaload, 1) := by decide +kernel
theorem dX11_state_81 : decode cX11_state 81 = .ok (.iload_n 1, 1) := by decide +kernel
theorem dX11_state_82 : decode cX11_state 82 = .ok (.iload_n 2, 1) := by decide +kernel
theorem dX11_state_83 : decode cX11_state 83 = .ok (.invokevirtual 178, 3) := by decide +kernel
theorem dX11_state_86 : decode cX11_state 86 = .ok (.aload_n 0, 1) := by decide +kernel
theorem dX11_state_87 : decode cX11_state 87 = .ok (.getfield 32, 3) := by decide +kernel
theorem dX11_state_90 : decode cX11_state 90 = .ok (.getfield 180, 3) := by decide +kernel
theorem dX11_state_93 : decode cX11_state 93 = .ok (.invokevirtual 184, 3) := by decide +kernel
theorem dX11_state_96 : decode cX11_state 96 = .ok (.iload 4, 2) := by decide +kernel
theorem dX11_state_98 : decode cX11_state 98 = .ok (.ireturn, 1) := by decide +kernel
theorem dX11_burns_0 : decode cX11_burns 0 = .ok (.aload_n 0, 1) := by decide +kernel
theorem dX11_burns_1 : decode cX11_burns 1 = .ok (.iload_n 1, 1) := by decide +kernel
theorem dX11_burns_2 : decode cX11_burns 2 = .ok (.invokevirtual 189, 3) := by decide +kernel
theorem dX11_burns_5 : decode cX11_burns 5 = .ok (.ifCond .eq 31, 3) := by decide +kernel
theorem dX11_burns_8 : decode cX11_burns 8 = .ok (.iload_n 2, 1) := by decide +kernel
theorem dX11_burns_9 : decode cX11_burns 9 = .ok (.invokestatic 160, 3) := by decide +kernel
theorem dX11_burns_12 : decode cX11_burns 12 = .ok (.ifCond .eq 24, 3) := by decide +kernel
theorem dX11_burns_15 : decode cX11_burns 15 = .ok (.aload_n 0, 1) := by decide +kernel
theorem dX11_burns_16 : decode cX11_burns 16 = .ok (.getfield 21, 3) := by decide +kernel
theorem dX11_burns_19 : decode cX11_burns 19 = .ok (.iload_n 3, 1) := by decide +kernel
theorem dX11_burns_20 : decode cX11_burns 20 = .ok (.invokevirtual 81, 3) := by decide +kernel
theorem dX11_burns_23 : decode cX11_burns 23 = .ok (.ifCond .eq 13, 3) := by decide +kernel
theorem dX11_burns_26 : decode cX11_burns 26 = .ok (.iload 4, 2) := by decide +kernel
theorem dX11_burns_28 : decode cX11_burns 28 = .ok (.iconst 0, 1) := by decide +kernel
theorem dX11_burns_29 : decode cX11_burns 29 = .ok (.iconst 3, 1) := by decide +kernel
theorem dX11_burns_30 : decode cX11_burns 30 = .ok (.invokestatic 85, 3) := by decide +kernel
theorem dX11_burns_33 : decode cX11_burns 33 = .ok (.ifCond .ne 5, 3) := by decide +kernel
theorem dX11_burns_36 : decode cX11_burns 36 = .ok (.iconst (-1), 1) := by decide +kernel
theorem dX11_burns_37 : decode cX11_burns 37 = .ok (.ireturn, 1) := by decide +kernel
theorem dX11_burns_38 : decode cX11_burns 38 = .ok (.aload_n 0, 1) := by decide +kernel
theorem dX11_burns_39 : decode cX11_burns 39 = .ok (.getfield 41, 3) := by decide +kernel
theorem dX11_burns_42 : decode cX11_burns 42 = .ok (.iload_n 1, 1) := by decide +kernel
theorem dX11_burns_43 : decode cX11_burns 43 = .ok (.aaload, 1) := by decide +kernel
theorem dX11_burns_44 : decode cX11_burns 44 = .ok (.astore 5, 2) := by decide +kernel
theorem dX11_burns_46 : decode cX11_burns 46 = .ok (.iload 4, 2) := by decide +kernel
theorem dX11_burns_48 : decode cX11_burns 48 = .ok (.iconst 1, 1) := by decide +kernel
theorem dX11_burns_49 : decode cX11_burns 49 = .ok (.if_icmp .eq 9, 3) := by decide +kernel
theorem dX11_burns_52 : decode cX11_burns 52 = .ok (.iload 4, 2) := by decide +kernel
theorem dX11_burns_54 : decode cX11_burns 54 = .ok (.iconst 2, 1) := by decide +kernel
theorem dX11_burns_55 : decode cX11_burns 55 = .ok (.if_icmp .ne 37, 3) := by decide +kernel
theorem dX11_burns_58 : decode cX11_burns 58 = .ok (.aload 5, 2) := by decide +kernel
theorem dX11_burns_60 : decode cX11_burns 60 = .ok (.aload_n 0, 1) := by decide +kernel
theorem dX11_burns_61 : decode cX11_burns 61 = .ok (.getfield 32, 3) := by decide +kernel
theorem dX11_burns_64 : decode cX11_burns 64 = .ok (.iload_n 2, 1) := by decide +kernel
theorem dX11_burns_65 : decode cX11_burns 65 = .ok (.invokevirtual 192, 3) := by decide +kernel
theorem dX11_burns_68 : decode cX11_burns 68 = .ok (.iload 4, 2) := by decide +kernel
theorem dX11_burns_70 : decode cX11_burns 70 = .ok (.iconst 1, 1) := by decide +kernel
theorem dX11_burns_71 : decode cX11_burns 71 = .ok (.if_icmp .ne 13, 3) := by decide +kernel
theorem dX11_burns_74 : decode cX11_burns 74 = .ok (.aload 5, 2) := by decide +kernel
theorem dX11_burns_76 : decode cX11_burns 76 = .ok (.getfield 196, 3) := by decide +kernel
theorem dX11_burns_79 : decode cX11_burns 79 = .ok (.iload_n 3, 1) := by decide +kernel
theorem dX11_burns_80 : decode cX11_burns 80 = .ok (.iaload, 1) := by decide +kernel
theorem dX11_burns_81 : decode cX11_burns 81 = .ok (.goto 10, 3) := by decide +kernel
theorem dX11_burns_84 : decode cX11_burns 84 = .ok (.aload 5, 2) := by decide +kernel
theorem dX11_burns_86 : decode cX11_burns 86 = .ok (.getfield 199, 3) := by decide +kernel
theorem dX11_burns_89 : decode cX11_burns 89 = .ok (.iload_n 3, 1) := by decide +kernel
theorem dX11_burns_90 : decode cX11_burns 90 = .ok (.iaload, 1) := by decide +kernel
theorem dX11_burns_91 : decode cX11_burns 91 = .ok (.ireturn, 1) := by decide +kernel
theorem dX11_burns_92 : decode cX11_burns 92 = .ok (.aload 5, 2) := by decide +kernel
theorem dX11_burns_94 : decode cX11_burns 94 = .ok (.aload_n 0, 1) := by decide +kernel
theorem dX11_burns_95 : decode cX11_burns 95 = .ok (.getfield 32, 3) := by decide +kernel
theorem dX11_burns_98 : decode cX11_burns 98 = .ok (.iload_n 2, 1) := by decide +kernel
theorem dX11_burns_99 : decode cX11_burns 99 = .ok (.invokevirtual 202, 3) := by decide +kernel
theorem dX11_burns_102 : decode cX11_burns 102 = .ok (.iload 4, 2) := by decide +kernel
theorem dX11_burns_104 : decode cX11_burns 104 = .ok (.iconst 3, 1) := by decide +kernel
theorem dX11_burns_105 : decode cX11_burns 105 = .ok (.if_icmp .ne 26, 3) := by decide +kernel
theorem dX11_burns_108 : decode cX11_burns 108 = .ok (.aload 5, 2) := by decide +kernel
theorem dX11_burns_110 : decode cX11_burns 110 = .ok (.aload_n 0, 1) := by decide +kernel
theorem dX11_burns_111 : decode cX11_burns 111 = .ok (.getfield 32, 3) := by decide +kernel
theorem dX11_burns_114 : decode cX11_burns 114 = .ok (.iload_n 2, 1) := by decide +kernel
theorem dX11_burns_115 : decode cX11_burns 115 = .ok (.invokevirtual 205, 3) := by decide +kernel
theorem dX11_burns_118 : decode cX11_burns 118 = .ok (.iload_n 3, 1) := by decide +kernel
theorem dX11_burns_119 : decode cX11_burns 119 = .ok (.invokestatic 209, 3) := by decide +kernel
theorem dX11_burns_122 : decode cX11_burns 122 = .ok (.ifCond .eq 7, 3) := by decide +kernel
theorem dX11_burns_125 : decode cX11_burns 125 = .ok (.iconst 1, 1) := by decide +kernel
theorem dX11_burns_126 : decode cX11_burns 126 = .ok (.goto 4, 3) := by decide +kernel
theorem dX11_burns_129 : decode cX11_burns 129 = .ok (.iconst 0, 1) := by decide +kernel
theorem dX11_burns_130 : decode cX11_burns 130 = .ok (.ireturn, 1) := by decide +kernel
theorem dX11_burns_131 : decode cX11_burns 131 = .ok (.aload 5, 2) := by decide +kernel
theorem dX11_burns_133 : decode cX11_burns 133 = .ok (.getfield 212, 3) := by decide +kernel
theorem dX11_burns_136 : decode cX11_burns 136 = .ok (.iload_n 2, 1) := by decide +kernel
theorem dX11_burns_137 : decode cX11_burns 137 = .ok (.laload, 1) := by decide +kernel
theorem dX11_burns_138 : decode cX11_burns 138 = .ok (.iload_n 3, 1) := by decide +kernel
theorem dX11_burns_139 : decode cX11_burns 139 = .ok (.invokestatic 209, 3) := by decide +kernel
theorem dX11_burns_142 : decode cX11_burns 142 = .ok (.ifCond .eq 5, 3) := by decide +kernel
theorem dX11_burns_145 : decode cX11_burns 145 = .ok (.iconst 1, 1) := by decide +kernel
theorem dX11_burns_146 : decode cX11_burns 146 = .ok (.ireturn, 1) := by decide +kernel
theorem dX11_burns_147 : decode cX11_burns 147 = .ok (.aload 5, 2) := by decide +kernel
theorem dX11_burns_149 : decode cX11_burns 149 = .ok (.getfield 216, 3) := by decide +kernel
theorem dX11_burns_152 : decode cX11_burns 152 = .ok (.iload_n 2, 1) := by decide +kernel
theorem dX11_burns_153 : decode cX11_burns 153 = .ok (.laload, 1) := by decide +kernel
theorem dX11_burns_154 : decode cX11_burns 154 = .ok (.iload_n 3, 1) := by decide +kernel
theorem dX11_burns_155 : decode cX11_burns 155 = .ok (.invokestatic 209, 3) := by decide +kernel
theorem dX11_burns_158 : decode cX11_burns 158 = .ok (.ifCond .eq 7, 3) := by decide +kernel
theorem dX11_burns_161 : decode cX11_burns 161 = .ok (.iconst 2, 1) := by decide +kernel
theorem dX11_burns_162 : decode cX11_burns 162 = .ok (.goto 4, 3) := by decide +kernel
theorem dX11_burns_165 : decode cX11_burns 165 = .ok (.iconst 0, 1) := by decide +kernel
theorem dX11_burns_166 : decode cX11_burns 166 = .ok (.ireturn, 1) := by decide +kernel
theorem dX11_lost_0 : decode cX11_lost 0 = .ok (.aload_n 0, 1) := by decide +kernel
theorem dX11_lost_1 : decode cX11_lost 1 = .ok (.iload_n 1, 1) := by decide +kernel
theorem dX11_lost_2 : decode cX11_lost 2 = .ok (.invokevirtual 189, 3) := by decide +kernel
theorem dX11_lost_5 : decode cX11_lost 5 = .ok (.ifCond .eq 10, 3) := by decide +kernel
theorem dX11_lost_8 : decode cX11_lost 8 = .ok (.iload_n 2, 1) := by decide +kernel
theorem dX11_lost_9 : decode cX11_lost 9 = .ok (.invokestatic 160, 3) := by decide +kernel
theorem dX11_lost_12 : decode cX11_lost 12 = .ok (.ifCond .ne 5, 3) := by decide +kernel
theorem dX11_lost_15 : decode cX11_lost 15 = .ok (.iconst (-1), 1) := by decide +kernel
theorem dX11_lost_16 : decode cX11_lost 16 = .ok (.ireturn, 1) := by decide +kernel
theorem dX11_lost_17 : decode cX11_lost 17 = .ok (.aload_n 0, 1) := by decide +kernel
theorem dX11_lost_18 : decode cX11_lost 18 = .ok (.getfield 41, 3) := by decide +kernel
theorem dX11_lost_21 : decode cX11_lost 21 = .ok (.iload_n 1, 1) := by decide +kernel
theorem dX11_lost_22 : decode cX11_lost 22 = .ok (.aaload, 1) := by decide +kernel
theorem dX11_lost_23 : decode cX11_lost 23 = .ok (.aload_n 0, 1) := by decide +kernel
theorem dX11_lost_24 : decode cX11_lost 24 = .ok (.getfield 32, 3) := by decide +kernel
theorem dX11_lost_27 : decode cX11_lost 27 = .ok (.iload_n 2, 1) := by decide +kernel
theorem dX11_lost_28 : decode cX11_lost 28 = .ok (.invokevirtual 202, 3) := by decide +kernel
theorem dX11_lost_31 : decode cX11_lost 31 = .ok (.aload_n 0, 1) := by decide +kernel
theorem dX11_lost_32 : decode cX11_lost 32 = .ok (.getfield 41, 3) := by decide +kernel
theorem dX11_lost_35 : decode cX11_lost 35 = .ok (.iload_n 1, 1) := by decide +kernel
theorem dX11_lost_36 : decode cX11_lost 36 = .ok (.aaload, 1) := by decide +kernel
theorem dX11_lost_37 : decode cX11_lost 37 = .ok (.iload_n 2, 1) := by decide +kernel
theorem dX11_lost_38 : decode cX11_lost 38 = .ok (.invokestatic 219, 3) := by decide +kernel
theorem dX11_lost_41 : decode cX11_lost 41 = .ok (.ireturn, 1) := by decide +kernel
theorem dX11_fed_0 : decode cX11_fed 0 = .ok (.aload_n 0, 1) := by decide +kernel
theorem dX11_fed_1 : decode cX11_fed 1 = .ok (.iload_n 1, 1) := by decide +kernel
theorem dX11_fed_2 : decode cX11_fed 2 = .ok (.invokevirtual 189, 3) := by decide +kernel
theorem dX11_fed_5 : decode cX11_fed 5 = .ok (.ifCond .eq 24, 3) := by decide +kernel
theorem dX11_fed_8 : decode cX11_fed 8 = .ok (.iload_n 2, 1) := by decide +kernel
theorem dX11_fed_9 : decode cX11_fed 9 = .ok (.invokestatic 160, 3) := by decide +kernel
theorem dX11_fed_12 : decode cX11_fed 12 = .ok (.ifCond .eq 17, 3) := by decide +kernel
theorem dX11_fed_15 : decode cX11_fed 15 = .ok (.aload_n 0, 1) := by decide +kernel
theorem dX11_fed_16 : decode cX11_fed 16 = .ok (.getfield 32, 3) := by decide +kernel
theorem dX11_fed_19 : decode cX11_fed 19 = .ok (.getfield 112, 3) := by decide +kernel
theorem dX11_fed_22 : decode cX11_fed 22 = .ok (.iload_n 3, 1) := by decide +kernel
theorem dX11_fed_23 : decode cX11_fed 23 = .ok (.invokevirtual 124, 3) := by decide +kernel
theorem dX11_fed_26 : decode cX11_fed 26 = .ok (.ifCond .ne 7, 3) := by decide +kernel
theorem dX11_fed_29 : decode cX11_fed 29 = .ok (.sipush (-1000), 3) := by decide +kernel
theorem dX11_fed_32 : decode cX11_fed 32 = .ok (.ireturn, 1) := by decide +kernel
theorem dX11_fed_33 : decode cX11_fed 33 = .ok (.aload_n 0, 1) := by decide +kernel
theorem dX11_fed_34 : decode cX11_fed 34 = .ok (.getfield 46, 3) := by decide +kernel
theorem dX11_fed_37 : decode cX11_fed 37 = .ok (.aload_n 0, 1) := by decide +kernel
theorem dX11_fed_38 : decode cX11_fed 38 = .ok (.getfield 32, 3) := by decide +kernel
theorem dX11_fed_41 : decode cX11_fed 41 = .ok (.getfield 163, 3) := by decide +kernel
theorem dX11_fed_44 : decode cX11_fed 44 = .ok (.getfield 223, 3) := by decide +kernel
theorem dX11_fed_47 : decode cX11_fed 47 = .ok (.iload_n 1, 1) := by decide +kernel
theorem dX11_fed_48 : decode cX11_fed 48 = .ok (.iaload, 1) := by decide +kernel
theorem dX11_fed_49 : decode cX11_fed 49 = .ok (.aload_n 0, 1) := by decide +kernel
theorem dX11_fed_50 : decode cX11_fed 50 = .ok (.getfield 32, 3) := by decide +kernel
theorem dX11_fed_53 : decode cX11_fed 53 = .ok (.getfield 163, 3) := by decide +kernel
theorem dX11_fed_56 : decode cX11_fed 56 = .ok (.getfield 226, 3) := by decide +kernel
theorem dX11_fed_59 : decode cX11_fed 59 = .ok (.iload_n 1, 1) := by decide +kernel
theorem dX11_fed_60 : decode cX11_fed 60 = .ok (.iaload, 1) := by decide +kernel
theorem dX11_fed_61 : decode cX11_fed 61 = .ok (.invokevirtual 178, 3) := by decide +kernel
theorem dX11_fed_64 : decode cX11_fed 64 = .ok (.aload_n 0, 1) := by decide +kernel
theorem dX11_fed_65 : decode cX11_fed 65 = .ok (.getfield 46, 3) := by decide +kernel
theorem dX11_fed_68 : decode cX11_fed 68 = .ok (.iload_n 3, 1) := by decide +kernel
theorem dX11_fed_69 : decode cX11_fed 69 = .ok (.putfield 229, 3) := by decide +kernel
theorem dX11_fed_72 : decode cX11_fed 72 = .ok (.aload_n 0, 1) := by decide +kernel
theorem dX11_fed_73 : decode cX11_fed 73 = .ok (.getfield 46, 3) := by decide +kernel
theorem dX11_fed_76 : decode cX11_fed 76 = .ok (.aload_n 0, 1) := by decide +kernel
theorem dX11_fed_77 : decode cX11_fed 77 = .ok (.getfield 32, 3) := by decide +kernel
theorem dX11_fed_80 : decode cX11_fed 80 = .ok (.iload_n 2, 1) := by decide +kernel
theorem dX11_fed_81 : decode cX11_fed 81 = .ok (.invokevirtual 202, 3) := by decide +kernel
theorem dX11_fed_84 : decode cX11_fed 84 = .ok (.aload_n 0, 1) := by decide +kernel
theorem dX11_fed_85 : decode cX11_fed 85 = .ok (.getfield 46, 3) := by decide +kernel
theorem dX11_fed_88 : decode cX11_fed 88 = .ok (.iconst (-1), 1) := by decide +kernel
theorem dX11_fed_89 : decode cX11_fed 89 = .ok (.putfield 229, 3) := by decide +kernel
theorem dX11_fed_92 : decode cX11_fed 92 = .ok (.aload_n 0, 1) := by decide +kernel
theorem dX11_fed_93 : decode cX11_fed 93 = .ok (.getfield 41, 3) := by decide +kernel
theorem dX11_fed_96 : decode cX11_fed 96 = .ok (.iload_n 1, 1) := by decide +kernel
theorem dX11_fed_97 : decode cX11_fed 97 = .ok (.aaload, 1) := by decide +kernel
theorem dX11_fed_98 : decode cX11_fed 98 = .ok (.aload_n 0, 1) := by decide +kernel
theorem dX11_fed_99 : decode cX11_fed 99 = .ok (.getfield 32, 3) := by decide +kernel
theorem dX11_fed_102 : decode cX11_fed 102 = .ok (.iload_n 2, 1) := by decide +kernel
theorem dX11_fed_103 : decode cX11_fed 103 = .ok (.invokevirtual 202, 3) := by decide +kernel
theorem dX11_fed_106 : decode cX11_fed 106 = .ok (.aload_n 0, 1) := by decide +kernel
theorem dX11_fed_107 : decode cX11_fed 107 = .ok (.getfield 41, 3) := by decide +kernel
theorem dX11_fed_110 : decode cX11_fed 110 = .ok (.iload_n 1, 1) := by decide +kernel
theorem dX11_fed_111 : decode cX11_fed 111 = .ok (.aaload, 1) := by decide +kernel
theorem dX11_fed_112 : decode cX11_fed 112 = .ok (.iload_n 2, 1) := by decide +kernel
theorem dX11_fed_113 : decode cX11_fed 113 = .ok (.invokestatic 219, 3) := by decide +kernel
theorem dX11_fed_116 : decode cX11_fed 116 = .ok (.aload_n 0, 1) := by decide +kernel
theorem dX11_fed_117 : decode cX11_fed 117 = .ok (.getfield 46, 3) := by decide +kernel
theorem dX11_fed_120 : decode cX11_fed 120 = .ok (.iload_n 2, 1) := by decide +kernel
theorem dX11_fed_121 : decode cX11_fed 121 = .ok (.invokestatic 219, 3) := by decide +kernel
theorem dX11_fed_124 : decode cX11_fed 124 = .ok (.isub, 1) := by decide +kernel
theorem dX11_fed_125 : decode cX11_fed 125 = .ok (.ireturn, 1) := by decide +kernel
theorem dX11_inTime_0 : decode cX11_inTime 0 = .ok (.iload_n 1, 1) := by decide +kernel
theorem dX11_inTime_1 : decode cX11_inTime 1 = .ok (.ifCond .lt 17, 3) := by decide +kernel
theorem dX11_inTime_4 : decode cX11_inTime 4 = .ok (.iload_n 1, 1) := by decide +kernel
theorem dX11_inTime_5 : decode cX11_inTime 5 = .ok (.aload_n 0, 1) := by decide +kernel
theorem dX11_inTime_6 : decode cX11_inTime 6 = .ok (.getfield 32, 3) := by decide +kernel
theorem dX11_inTime_9 : decode cX11_inTime 9 = .ok (.getfield 112, 3) := by decide +kernel
theorem dX11_inTime_12 : decode cX11_inTime 12 = .ok (.getfield 149, 3) := by decide +kernel
theorem dX11_inTime_15 : decode cX11_inTime 15 = .ok (.if_icmp .lt 5, 3) := by decide +kernel
theorem dX11_inTime_18 : decode cX11_inTime 18 = .ok (.iconst (-1), 1) := by decide +kernel
theorem dX11_inTime_19 : decode cX11_inTime 19 = .ok (.ireturn, 1) := by decide +kernel
theorem dX11_inTime_20 : decode cX11_inTime 20 = .ok (.aload_n 0, 1) := by decide +kernel
theorem dX11_inTime_21 : decode cX11_inTime 21 = .ok (.iload_n 2, 1) := by decide +kernel
theorem dX11_inTime_22 : decode cX11_inTime 22 = .ok (.invokevirtual 189, 3) := by decide +kernel
theorem dX11_inTime_25 : decode cX11_inTime 25 = .ok (.ifCond .eq 23, 3) := by decide +kernel
theorem dX11_inTime_28 : decode cX11_inTime 28 = .ok (.aload_n 0, 1) := by decide +kernel
theorem dX11_inTime_29 : decode cX11_inTime 29 = .ok (.iload_n 1, 1) := by decide +kernel
theorem dX11_inTime_30 : decode cX11_inTime 30 = .ok (.aload_n 0, 1) := by decide +kernel
theorem dX11_inTime_31 : decode cX11_inTime 31 = .ok (.getfield 41, 3) := by decide +kernel
theorem dX11_inTime_34 : decode cX11_inTime 34 = .ok (.iload_n 2, 1) := by decide +kernel
theorem dX11_inTime_35 : decode cX11_inTime 35 = .ok (.aaload, 1) := by decide +kernel
theorem dX11_inTime_36 : decode cX11_inTime 36 = .ok (.invokevirtual 232, 3) := by decide +kernel
theorem dX11_inTime_39 : decode cX11_inTime 39 = .ok (.ifCond .eq 7, 3) := by decide +kernel
theorem dX11_inTime_42 : decode cX11_inTime 42 = .ok (.iconst 1, 1) := by decide +kernel
theorem dX11_inTime_43 : decode cX11_inTime 43 = .ok (.goto 4, 3) := by decide +kernel
theorem dX11_inTime_46 : decode cX11_inTime 46 = .ok (.iconst 0, 1) := by decide +kernel
theorem dX11_inTime_47 : decode cX11_inTime 47 = .ok (.ireturn, 1) := by decide +kernel
theorem dX11_inTime_48 : decode cX11_inTime 48 = .ok (.aload_n 0, 1) := by decide +kernel
theorem dX11_inTime_49 : decode cX11_inTime 49 = .ok (.aload_n 0, 1) := by decide +kernel
theorem dX11_inTime_50 : decode cX11_inTime 50 = .ok (.getfield 32, 3) := by decide +kernel
theorem dX11_inTime_53 : decode cX11_inTime 53 = .ok (.getfield 77, 3) := by decide +kernel
theorem dX11_inTime_56 : decode cX11_inTime 56 = .ok (.invokevirtual 236, 3) := by decide +kernel
theorem dX11_inTime_59 : decode cX11_inTime 59 = .ok (.aload_n 0, 1) := by decide +kernel
theorem dX11_inTime_60 : decode cX11_inTime 60 = .ok (.invokevirtual 239, 3) := by decide +kernel
theorem dX11_inTime_63 : decode cX11_inTime 63 = .ok (.istore_n 3, 1) := by decide +kernel
theorem dX11_inTime_64 : decode cX11_inTime 64 = .ok (.iload_n 2, 1) := by decide +kernel
theorem dX11_inTime_65 : decode cX11_inTime 65 = .ok (.iconst (-1), 1) := by decide +kernel
theorem dX11_inTime_66 : decode cX11_inTime 66 = .ok (.if_icmp .ne 7, 3) := by decide +kernel
theorem dX11_inTime_69 : decode cX11_inTime 69 = .ok (.iload_n 3, 1) := by decide +kernel
theorem dX11_inTime_70 : decode cX11_inTime 70 = .ok (.ifCond .ne 5, 3) := by decide +kernel
theorem dX11_inTime_73 : decode cX11_inTime 73 = .ok (.iconst (-1), 1) := by decide +kernel
theorem dX11_inTime_74 : decode cX11_inTime 74 = .ok (.ireturn, 1) := by decide +kernel
theorem dX11_inTime_75 : decode cX11_inTime 75 = .ok (.iconst 0, 1) := by decide +kernel
theorem dX11_inTime_76 : decode cX11_inTime 76 = .ok (.istore 4, 2) := by decide +kernel
theorem dX11_inTime_78 : decode cX11_inTime 78 = .ok (.iconst 0, 1) := by decide +kernel
theorem dX11_inTime_79 : decode cX11_inTime 79 = .ok (.istore 5, 2) := by decide +kernel
theorem dX11_inTime_81 : decode cX11_inTime 81 = .ok (.iload 5, 2) := by decide +kernel
theorem dX11_inTime_83 : decode cX11_inTime 83 = .ok (.aload_n 0, 1) := by decide +kernel
theorem dX11_inTime_84 : decode cX11_inTime 84 = .ok (.getfield 32, 3) := by decide +kernel
theorem dX11_inTime_87 : decode cX11_inTime 87 = .ok (.getfield 163, 3) := by decide +kernel
theorem dX11_inTime_90 : decode cX11_inTime 90 = .ok (.getfield 167, 3) := by decide +kernel
theorem dX11_inTime_93 : decode cX11_inTime 93 = .ok (.if_icmp .ge 36, 3) := by decide +kernel
theorem dX11_inTime_96 : decode cX11_inTime 96 = .ok (.iload_n 3, 1) := by decide +kernel
theorem dX11_inTime_97 : decode cX11_inTime 97 = .ok (.iload 5, 2) := by decide +kernel
theorem dX11_inTime_99 : decode cX11_inTime 99 = .ok (.invokestatic 243, 3) := by decide +kernel
theorem dX11_inTime_102 : decode cX11_inTime 102 = .ok (.ifCond .eq 21, 3) := by decide +kernel
theorem dX11_inTime_105 : decode cX11_inTime 105 = .ok (.aload_n 0, 1) := by decide +kernel
theorem dX11_inTime_106 : decode cX11_inTime 106 = .ok (.iload_n 1, 1) := by decide +kernel
theorem dX11_inTime_107 : decode cX11_inTime 107 = .ok (.aload_n 0, 1) := by decide +kernel
theorem dX11_inTime_108 : decode cX11_inTime 108 = .ok (.getfield 41, 3) := by decide +kernel
theorem dX11_inTime_111 : decode cX11_inTime 111 = .ok (.iload 5, 2) := by decide +kernel
theorem dX11_inTime_113 : decode cX11_inTime 113 = .ok (.aaload, 1) := by decide +kernel
theorem dX11_inTime_114 : decode cX11_inTime 114 = .ok (.invokevirtual 232, 3) := by decide +kernel
theorem dX11_inTime_117 : decode cX11_inTime 117 = .ok (.ifCond .eq 6, 3) := by decide +kernel
theorem dX11_inTime_120 : decode cX11_inTime 120 = .ok (.iinc 4 1, 3) := by decide +kernel
theorem dX11_inTime_123 : decode cX11_inTime 123 = .ok (.iinc 5 1, 3) := by decide +kernel
theorem dX11_inTime_126 : decode cX11_inTime 126 = .ok (.goto (-45), 3) := by decide +kernel
theorem dX11_inTime_129 : decode cX11_inTime 129 = .ok (.iload 4, 2) := by decide +kernel
theorem dX11_inTime_131 : decode cX11_inTime 131 = .ok (.iload_n 3, 1) := by decide +kernel
theorem dX11_inTime_132 : decode cX11_inTime 132 = .ok (.invokestatic 247, 3) := by decide +kernel
theorem dX11_inTime_135 : decode cX11_inTime 135 = .ok (.invokestatic 252, 3) := by decide +kernel
theorem dX11_inTime_138 : decode cX11_inTime 138 = .ok (.ireturn, 1) := by decide +kernel
theorem dX11_read_0 : decode cX11_read 0 = .ok (.aload_n 0, 1) := by decide +kernel
theorem dX11_read_1 : decode cX11_read 1 = .ok (.getfield 21, 3) := by decide +kernel
theorem dX11_read_4 : decode cX11_read 4 = .ok (.iload_n 1, 1) := by decide +kernel
theorem dX11_read_5 : decode cX11_read 5 = .ok (.invokevirtual 81, 3) := by decide +kernel
theorem dX11_read_8 : decode cX11_read 8 = .ok (.ifCond .eq 37, 3) := by decide +kernel
theorem dX11_read_11 : decode cX11_read 11 = .ok (.iload_n 2, 1) := by decide +kernel
theorem dX11_read_12 : decode cX11_read 12 = .ok (.invokestatic 160, 3) := by decide +kernel
theorem dX11_read_15 : decode cX11_read 15 = .ok (.ifCond .eq 30, 3) := by decide +kernel
theorem dX11_read_18 : decode cX11_read 18 = .ok (.iload_n 2, 1) := by decide +kernel
theorem dX11_read_19 : decode cX11_read 19 = .ok (.aload_n 0, 1) := by decide +kernel
theorem dX11_read_20 : decode cX11_read 20 = .ok (.getfield 32, 3) := by decide +kernel
theorem dX11_read_23 : decode cX11_read 23 = .ok (.getfield 77, 3) := by decide +kernel
theorem dX11_read_26 : decode cX11_read 26 = .ok (.if_icmp .gt 19, 3) := by decide +kernel
theorem dX11_read_29 : decode cX11_read 29 = .ok (.aload_n 0, 1) := by decide +kernel
theorem dX11_read_30 : decode cX11_read 30 = .ok (.getfield 32, 3) := by decide +kernel
theorem dX11_read_33 : decode cX11_read 33 = .ok (.getfield 163, 3) := by decide +kernel
theorem dX11_read_36 : decode cX11_read 36 = .ok (.getfield 255, 3) := by decide +kernel
theorem dX11_read_39 : decode cX11_read 39 = .ok (.sipush 200, 3) := by decide +kernel
theorem dX11_read_42 : decode cX11_read 42 = .ok (.if_icmp .lt 5, 3) := by decide +kernel
theorem dX11_read_45 : decode cX11_read 45 = .ok (.iconst (-1), 1) := by decide +kernel
theorem dX11_read_46 : decode cX11_read 46 = .ok (.ireturn, 1) := by decide +kernel
theorem dX11_read_47 : decode cX11_read 47 = .ok (.aload_n 0, 1) := by decide +kernel
theorem dX11_read_48 : decode cX11_read 48 = .ok (.getfield 32, 3) := by decide +kernel
theorem dX11_read_51 : decode cX11_read 51 = .ok (.getfield 163, 3) := by decide +kernel
theorem dX11_read_54 : decode cX11_read 54 = .ok (.iload_n 1, 1) := by decide +kernel
theorem dX11_read_55 : decode cX11_read 55 = .ok (.iload_n 2, 1) := by decide +kernel
theorem dX11_read_56 : decode cX11_read 56 = .ok (.iload_n 3, 1) := by decide +kernel
theorem dX11_read_57 : decode cX11_read 57 = .ok (.aload_n 0, 1) := by decide +kernel
theorem dX11_read_58 : decode cX11_read 58 = .ok (.getfield 32, 3) := by decide +kernel
theorem dX11_read_61 : decode cX11_read 61 = .ok (.getfield 77, 3) := by decide +kernel
theorem dX11_read_64 : decode cX11_read 64 = .ok (.invokevirtual 258, 3) := by decide +kernel
theorem dX11_read_67 : decode cX11_read 67 = .ok (.aload_n 0, 1) := by decide +kernel
theorem dX11_read_68 : decode cX11_read 68 = .ok (.getfield 32, 3) := by decide +kernel
theorem dX11_read_71 : decode cX11_read 71 = .ok (.getfield 180, 3) := by decide +kernel
theorem dX11_read_74 : decode cX11_read 74 = .ok (.invokevirtual 184, 3) := by decide +kernel
theorem dX11_read_77 : decode cX11_read 77 = .ok (.aload_n 0, 1) := by decide +kernel
theorem dX11_read_78 : decode cX11_read 78 = .ok (.getfield 32, 3) := by decide +kernel
theorem dX11_read_81 : decode cX11_read 81 = .ok (.getfield 163, 3) := by decide +kernel
theorem dX11_read_84 : decode cX11_read 84 = .ok (.getfield 255, 3) := by decide +kernel
theorem dX11_read_87 : decode cX11_read 87 = .ok (.ireturn, 1) := by decide +kernel
theorem dX11_let_0 : decode cX11_let 0 = .ok (.iload_n 2, 1) := by decide +kernel
theorem dX11_let_1 : decode cX11_let 1 = .ok (.invokestatic 262, 3) := by decide +kernel
theorem dX11_let_4 : decode cX11_let 4 = .ok (.ifCond .ne 5, 3) := by decide +kernel
theorem dX11_let_7 : decode cX11_let 7 = .ok (.iconst (-1), 1) := by decide +kernel
theorem dX11_let_8 : decode cX11_let 8 = .ok (.ireturn, 1) := by decide +kernel
theorem dX11_let_9 : decode cX11_let 9 = .ok (.aload_n 0, 1) := by decide +kernel
theorem dX11_let_10 : decode cX11_let 10 = .ok (.aload_n 0, 1) := by decide +kernel
theorem dX11_let_11 : decode cX11_let 11 = .ok (.getfield 32, 3) := by decide +kernel
theorem dX11_let_14 : decode cX11_let 14 = .ok (.getfield 77, 3) := by decide +kernel
theorem dX11_let_17 : decode cX11_let 17 = .ok (.invokevirtual 236, 3) := by decide +kernel
theorem dX11_let_20 : decode cX11_let 20 = .ok (.aload_n 0, 1) := by decide +kernel
theorem dX11_let_21 : decode cX11_let 21 = .ok (.iload_n 1, 1) := by decide +kernel
theorem dX11_let_22 : decode cX11_let 22 = .ok (.invokevirtual 189, 3) := by decide +kernel
theorem dX11_let_25 : decode cX11_let 25 = .ok (.ifCond .eq 18, 3) := by decide +kernel
theorem dX11_let_28 : decode cX11_let 28 = .ok (.aload_n 0, 1) := by decide +kernel
theorem dX11_let_29 : decode cX11_let 29 = .ok (.iload_n 1, 1) := by decide +kernel
theorem dX11_let_30 : decode cX11_let 30 = .ok (.iload_n 2, 1) := by decide +kernel
theorem dX11_let_31 : decode cX11_let 31 = .ok (.invokevirtual 265, 3) := by decide +kernel
theorem dX11_let_34 : decode cX11_let 34 = .ok (.ifCond .eq 7, 3) := by decide +kernel
theorem dX11_let_37 : decode cX11_let 37 = .ok (.iconst 1, 1) := by decide +kernel
theorem dX11_let_38 : decode cX11_let 38 = .ok (.goto 4, 3) := by decide +kernel
theorem dX11_let_41 : decode cX11_let 41 = .ok (.iconst 0, 1) := by decide +kernel
theorem dX11_let_42 : decode cX11_let 42 = .ok (.ireturn, 1) := by decide +kernel
theorem dX11_let_43 : decode cX11_let 43 = .ok (.iload_n 1, 1) := by decide +kernel
theorem dX11_let_44 : decode cX11_let 44 = .ok (.iconst (-1), 1) := by decide +kernel
theorem dX11_let_45 : decode cX11_let 45 = .ok (.if_icmp .ne 14, 3) := by decide +kernel
theorem dX11_let_48 : decode cX11_let 48 = .ok (.aload_n 0, 1) := by decide +kernel
theorem dX11_let_49 : decode cX11_let 49 = .ok (.iload_n 2, 1) := by decide +kernel
theorem dX11_let_50 : decode cX11_let 50 = .ok (.invokevirtual 268, 3) := by decide +kernel
theorem dX11_let_53 : decode cX11_let 53 = .ok (.invokestatic 247, 3) := by decide +kernel
theorem dX11_let_56 : decode cX11_let 56 = .ok (.goto 4, 3) := by decide +kernel
theorem dX11_let_59 : decode cX11_let 59 = .ok (.iconst (-1), 1) := by decide +kernel
theorem dX11_let_60 : decode cX11_let 60 = .ok (.ireturn, 1) := by decide +kernel
theorem dX11_span_0 : decode cX11_span 0 = .ok (.aload_n 0, 1) := by decide +kernel
theorem dX11_span_1 : decode cX11_span 1 = .ok (.getfield 21, 3) := by decide +kernel
theorem dX11_span_4 : decode cX11_span 4 = .ok (.iload_n 1, 1) := by decide +kernel
theorem dX11_span_5 : decode cX11_span 5 = .ok (.invokevirtual 81, 3) := by decide +kernel
theorem dX11_span_8 : decode cX11_span 8 = .ok (.ifCond .eq 17, 3) := by decide +kernel
theorem dX11_span_11 : decode cX11_span 11 = .ok (.iload_n 2, 1) := by decide +kernel
theorem dX11_span_12 : decode cX11_span 12 = .ok (.invokestatic 160, 3) := by decide +kernel
theorem dX11_span_15 : decode cX11_span 15 = .ok (.ifCond .eq 10, 3) := by decide +kernel
theorem dX11_span_18 : decode cX11_span 18 = .ok (.iload_n 3, 1) := by decide +kernel
theorem dX11_span_19 : decode cX11_span 19 = .ok (.invokestatic 262, 3) := by decide +kernel
theorem dX11_span_22 : decode cX11_span 22 = .ok (.ifCond .ne 5, 3) := by decide +kernel
theorem dX11_span_25 : decode cX11_span 25 = .ok (.iconst (-1), 1) := by decide +kernel
theorem dX11_span_26 : decode cX11_span 26 = .ok (.ireturn, 1) := by decide +kernel
theorem dX11_span_27 : decode cX11_span 27 = .ok (.aload_n 0, 1) := by decide +kernel
theorem dX11_span_28 : decode cX11_span 28 = .ok (.iload_n 2, 1) := by decide +kernel
theorem dX11_span_29 : decode cX11_span 29 = .ok (.invokevirtual 236, 3) := by decide +kernel
theorem dX11_span_32 : decode cX11_span 32 = .ok (.aload_n 0, 1) := by decide +kernel
theorem dX11_span_33 : decode cX11_span 33 = .ok (.iload_n 3, 1) := by decide +kernel
theorem dX11_span_34 : decode cX11_span 34 = .ok (.invokevirtual 268, 3) := by decide +kernel
theorem dX11_span_37 : decode cX11_span 37 = .ok (.istore 4, 2) := by decide +kernel
theorem dX11_span_39 : decode cX11_span 39 = .ok (.iload 4, 2) := by decide +kernel
theorem dX11_span_41 : decode cX11_span 41 = .ok (.ifCond .ne 7, 3) := by decide +kernel
theorem dX11_span_44 : decode cX11_span 44 = .ok (.iconst (-1), 1) := by decide +kernel
theorem dX11_span_45 : decode cX11_span 45 = .ok (.goto 19, 3) := by decide +kernel
theorem dX11_span_48 : decode cX11_span 48 = .ok (.aload_n 0, 1) := by decide +kernel
theorem dX11_span_49 : decode cX11_span 49 = .ok (.iload 4, 2) := by decide +kernel
theorem dX11_span_51 : decode cX11_span 51 = .ok (.iload_n 1, 1) := by decide +kernel
theorem dX11_span_52 : decode cX11_span 52 = .ok (.iload_n 2, 1) := by decide +kernel
theorem dX11_span_53 : decode cX11_span 53 = .ok (.invokevirtual 271, 3) := by decide +kernel
theorem dX11_span_56 : decode cX11_span 56 = .ok (.iload 4, 2) := by decide +kernel
theorem dX11_span_58 : decode cX11_span 58 = .ok (.invokestatic 247, 3) := by decide +kernel
theorem dX11_span_61 : decode cX11_span 61 = .ok (.invokestatic 252, 3) := by decide +kernel
theorem dX11_span_64 : decode cX11_span 64 = .ok (.ireturn, 1) := by decide +kernel
