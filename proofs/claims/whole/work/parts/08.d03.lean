theorem dX11_parts_0 : decode cX11_parts 0 = .ok (.iload_n 1, 1) := by decide +kernel
theorem dX11_parts_1 : decode cX11_parts 1 = .ok (.invokestatic 160, 3) := by decide +kernel
theorem dX11_parts_4 : decode cX11_parts 4 = .ok (.ifCond .ne 5, 3) := by decide +kernel
theorem dX11_parts_7 : decode cX11_parts 7 = .ok (.iconst (-1), 1) := by decide +kernel
theorem dX11_parts_8 : decode cX11_parts 8 = .ok (.ireturn, 1) := by decide +kernel
theorem dX11_parts_9 : decode cX11_parts 9 = .ok (.aload_n 0, 1) := by decide +kernel
theorem dX11_parts_10 : decode cX11_parts 10 = .ok (.iload_n 1, 1) := by decide +kernel
theorem dX11_parts_11 : decode cX11_parts 11 = .ok (.invokevirtual 236, 3) := by decide +kernel
theorem dX11_parts_14 : decode cX11_parts 14 = .ok (.aload_n 0, 1) := by decide +kernel
theorem dX11_parts_15 : decode cX11_parts 15 = .ok (.invokevirtual 239, 3) := by decide +kernel
theorem dX11_parts_18 : decode cX11_parts 18 = .ok (.istore_n 2, 1) := by decide +kernel
theorem dX11_parts_19 : decode cX11_parts 19 = .ok (.iload_n 2, 1) := by decide +kernel
theorem dX11_parts_20 : decode cX11_parts 20 = .ok (.invokestatic 247, 3) := by decide +kernel
theorem dX11_parts_23 : decode cX11_parts 23 = .ok (.istore_n 3, 1) := by decide +kernel
theorem dX11_parts_24 : decode cX11_parts 24 = .ok (.iconst (-1), 1) := by decide +kernel
theorem dX11_parts_25 : decode cX11_parts 25 = .ok (.istore 4, 2) := by decide +kernel
theorem dX11_parts_27 : decode cX11_parts 27 = .ok (.iconst 0, 1) := by decide +kernel
theorem dX11_parts_28 : decode cX11_parts 28 = .ok (.istore 5, 2) := by decide +kernel
theorem dX11_parts_30 : decode cX11_parts 30 = .ok (.iconst 0, 1) := by decide +kernel
theorem dX11_parts_31 : decode cX11_parts 31 = .ok (.istore 6, 2) := by decide +kernel
theorem dX11_parts_33 : decode cX11_parts 33 = .ok (.iload 6, 2) := by decide +kernel
theorem dX11_parts_35 : decode cX11_parts 35 = .ok (.aload_n 0, 1) := by decide +kernel
theorem dX11_parts_36 : decode cX11_parts 36 = .ok (.getfield 21, 3) := by decide +kernel
theorem dX11_parts_39 : decode cX11_parts 39 = .ok (.getfield 274, 3) := by decide +kernel
theorem dX11_parts_42 : decode cX11_parts 42 = .ok (.if_icmp .ge 45, 3) := by decide +kernel
theorem dX11_parts_45 : decode cX11_parts 45 = .ok (.aload_n 0, 1) := by decide +kernel
theorem dX11_parts_46 : decode cX11_parts 46 = .ok (.iload_n 2, 1) := by decide +kernel
theorem dX11_parts_47 : decode cX11_parts 47 = .ok (.iload 6, 2) := by decide +kernel
theorem dX11_parts_49 : decode cX11_parts 49 = .ok (.iload_n 1, 1) := by decide +kernel
theorem dX11_parts_50 : decode cX11_parts 50 = .ok (.invokevirtual 271, 3) := by decide +kernel
theorem dX11_parts_53 : decode cX11_parts 53 = .ok (.istore 7, 2) := by decide +kernel
theorem dX11_parts_55 : decode cX11_parts 55 = .ok (.iload 7, 2) := by decide +kernel
theorem dX11_parts_57 : decode cX11_parts 57 = .ok (.iload_n 3, 1) := by decide +kernel
theorem dX11_parts_58 : decode cX11_parts 58 = .ok (.iload 7, 2) := by decide +kernel
theorem dX11_parts_60 : decode cX11_parts 60 = .ok (.isub, 1) := by decide +kernel
theorem dX11_parts_61 : decode cX11_parts 61 = .ok (.invokestatic 9, 3) := by decide +kernel
theorem dX11_parts_64 : decode cX11_parts 64 = .ok (.istore 8, 2) := by decide +kernel
theorem dX11_parts_66 : decode cX11_parts 66 = .ok (.iload 8, 2) := by decide +kernel
theorem dX11_parts_68 : decode cX11_parts 68 = .ok (.iload 5, 2) := by decide +kernel
theorem dX11_parts_70 : decode cX11_parts 70 = .ok (.if_icmp .le 11, 3) := by decide +kernel
theorem dX11_parts_73 : decode cX11_parts 73 = .ok (.iload 8, 2) := by decide +kernel
theorem dX11_parts_75 : decode cX11_parts 75 = .ok (.istore 5, 2) := by decide +kernel
theorem dX11_parts_77 : decode cX11_parts 77 = .ok (.iload 6, 2) := by decide +kernel
theorem dX11_parts_79 : decode cX11_parts 79 = .ok (.istore 4, 2) := by decide +kernel
theorem dX11_parts_81 : decode cX11_parts 81 = .ok (.iinc 6 1, 3) := by decide +kernel
theorem dX11_parts_84 : decode cX11_parts 84 = .ok (.goto (-51), 3) := by decide +kernel
theorem dX11_parts_87 : decode cX11_parts 87 = .ok (.iload 4, 2) := by decide +kernel
theorem dX11_parts_89 : decode cX11_parts 89 = .ok (.ireturn, 1) := by decide +kernel
theorem dX11_house_0 : decode cX11_house 0 = .ok (.aload_n 0, 1) := by decide +kernel
theorem dX11_house_1 : decode cX11_house 1 = .ok (.getfield 21, 3) := by decide +kernel
theorem dX11_house_4 : decode cX11_house 4 = .ok (.iload_n 1, 1) := by decide +kernel
theorem dX11_house_5 : decode cX11_house 5 = .ok (.invokevirtual 81, 3) := by decide +kernel
theorem dX11_house_8 : decode cX11_house 8 = .ok (.ifCond .eq 38, 3) := by decide +kernel
theorem dX11_house_11 : decode cX11_house 11 = .ok (.iload_n 2, 1) := by decide +kernel
theorem dX11_house_12 : decode cX11_house 12 = .ok (.iconst 0, 1) := by decide +kernel
theorem dX11_house_13 : decode cX11_house 13 = .ok (.bipush 9, 2) := by decide +kernel
theorem dX11_house_15 : decode cX11_house 15 = .ok (.invokestatic 85, 3) := by decide +kernel
theorem dX11_house_18 : decode cX11_house 18 = .ok (.ifCond .eq 28, 3) := by decide +kernel
theorem dX11_house_21 : decode cX11_house 21 = .ok (.iload_n 3, 1) := by decide +kernel
theorem dX11_house_22 : decode cX11_house 22 = .ok (.iconst 1, 1) := by decide +kernel
theorem dX11_house_23 : decode cX11_house 23 = .ok (.bipush 9, 2) := by decide +kernel
theorem dX11_house_25 : decode cX11_house 25 = .ok (.invokestatic 85, 3) := by decide +kernel
theorem dX11_house_28 : decode cX11_house 28 = .ok (.ifCond .eq 18, 3) := by decide +kernel
theorem dX11_house_31 : decode cX11_house 31 = .ok (.aload_n 0, 1) := by decide +kernel
theorem dX11_house_32 : decode cX11_house 32 = .ok (.getfield 32, 3) := by decide +kernel
theorem dX11_house_35 : decode cX11_house 35 = .ok (.getfield 277, 3) := by decide +kernel
theorem dX11_house_38 : decode cX11_house 38 = .ok (.getfield 281, 3) := by decide +kernel
theorem dX11_house_41 : decode cX11_house 41 = .ok (.bipush 20, 2) := by decide +kernel
theorem dX11_house_43 : decode cX11_house 43 = .ok (.if_icmp .lt 5, 3) := by decide +kernel
theorem dX11_house_46 : decode cX11_house 46 = .ok (.iconst (-1), 1) := by decide +kernel
theorem dX11_house_47 : decode cX11_house 47 = .ok (.ireturn, 1) := by decide +kernel
theorem dX11_house_48 : decode cX11_house 48 = .ok (.aload_n 0, 1) := by decide +kernel
theorem dX11_house_49 : decode cX11_house 49 = .ok (.getfield 32, 3) := by decide +kernel
theorem dX11_house_52 : decode cX11_house 52 = .ok (.getfield 277, 3) := by decide +kernel
theorem dX11_house_55 : decode cX11_house 55 = .ok (.iload_n 1, 1) := by decide +kernel
theorem dX11_house_56 : decode cX11_house 56 = .ok (.iload_n 2, 1) := by decide +kernel
theorem dX11_house_57 : decode cX11_house 57 = .ok (.iload_n 3, 1) := by decide +kernel
theorem dX11_house_58 : decode cX11_house 58 = .ok (.invokevirtual 284, 3) := by decide +kernel
theorem dX11_house_61 : decode cX11_house 61 = .ok (.ireturn, 1) := by decide +kernel
theorem dX11_gas_0 : decode cX11_gas 0 = .ok (.aload_n 0, 1) := by decide +kernel
theorem dX11_gas_1 : decode cX11_gas 1 = .ok (.getfield 32, 3) := by decide +kernel
theorem dX11_gas_4 : decode cX11_gas 4 = .ok (.getfield 277, 3) := by decide +kernel
theorem dX11_gas_7 : decode cX11_gas 7 = .ok (.iload_n 1, 1) := by decide +kernel
theorem dX11_gas_8 : decode cX11_gas 8 = .ok (.invokevirtual 287, 3) := by decide +kernel
theorem dX11_gas_11 : decode cX11_gas 11 = .ok (.ifCond .eq 10, 3) := by decide +kernel
theorem dX11_gas_14 : decode cX11_gas 14 = .ok (.iload_n 2, 1) := by decide +kernel
theorem dX11_gas_15 : decode cX11_gas 15 = .ok (.invokestatic 160, 3) := by decide +kernel
theorem dX11_gas_18 : decode cX11_gas 18 = .ok (.ifCond .ne 5, 3) := by decide +kernel
theorem dX11_gas_21 : decode cX11_gas 21 = .ok (.iconst (-1), 1) := by decide +kernel
theorem dX11_gas_22 : decode cX11_gas 22 = .ok (.ireturn, 1) := by decide +kernel
theorem dX11_gas_23 : decode cX11_gas 23 = .ok (.aload_n 0, 1) := by decide +kernel
theorem dX11_gas_24 : decode cX11_gas 24 = .ok (.iload_n 2, 1) := by decide +kernel
theorem dX11_gas_25 : decode cX11_gas 25 = .ok (.invokevirtual 236, 3) := by decide +kernel
theorem dX11_gas_28 : decode cX11_gas 28 = .ok (.aload_n 0, 1) := by decide +kernel
theorem dX11_gas_29 : decode cX11_gas 29 = .ok (.iload_n 1, 1) := by decide +kernel
theorem dX11_gas_30 : decode cX11_gas 30 = .ok (.iload_n 2, 1) := by decide +kernel
theorem dX11_gas_31 : decode cX11_gas 31 = .ok (.iload_n 3, 1) := by decide +kernel
theorem dX11_gas_32 : decode cX11_gas 32 = .ok (.aload_n 0, 1) := by decide +kernel
theorem dX11_gas_33 : decode cX11_gas 33 = .ok (.invokevirtual 239, 3) := by decide +kernel
theorem dX11_gas_36 : decode cX11_gas 36 = .ok (.invokevirtual 290, 3) := by decide +kernel
theorem dX11_gas_39 : decode cX11_gas 39 = .ok (.ireturn, 1) := by decide +kernel
theorem dX11_person_0 : decode cX11_person 0 = .ok (.aload_n 0, 1) := by decide +kernel
theorem dX11_person_1 : decode cX11_person 1 = .ok (.getfield 32, 3) := by decide +kernel
theorem dX11_person_4 : decode cX11_person 4 = .ok (.getfield 277, 3) := by decide +kernel
theorem dX11_person_7 : decode cX11_person 7 = .ok (.iload_n 1, 1) := by decide +kernel
theorem dX11_person_8 : decode cX11_person 8 = .ok (.invokevirtual 287, 3) := by decide +kernel
theorem dX11_person_11 : decode cX11_person 11 = .ok (.ifCond .eq 39, 3) := by decide +kernel
theorem dX11_person_14 : decode cX11_person 14 = .ok (.iload_n 2, 1) := by decide +kernel
theorem dX11_person_15 : decode cX11_person 15 = .ok (.iconst 0, 1) := by decide +kernel
theorem dX11_person_16 : decode cX11_person 16 = .ok (.bipush 9, 2) := by decide +kernel
theorem dX11_person_18 : decode cX11_person 18 = .ok (.invokestatic 85, 3) := by decide +kernel
theorem dX11_person_21 : decode cX11_person 21 = .ok (.ifCond .eq 29, 3) := by decide +kernel
theorem dX11_person_24 : decode cX11_person 24 = .ok (.iload_n 3, 1) := by decide +kernel
theorem dX11_person_25 : decode cX11_person 25 = .ok (.iconst 0, 1) := by decide +kernel
theorem dX11_person_26 : decode cX11_person 26 = .ok (.sipush 9999, 3) := by decide +kernel
theorem dX11_person_29 : decode cX11_person 29 = .ok (.invokestatic 85, 3) := by decide +kernel
theorem dX11_person_32 : decode cX11_person 32 = .ok (.ifCond .eq 18, 3) := by decide +kernel
theorem dX11_person_35 : decode cX11_person 35 = .ok (.aload_n 0, 1) := by decide +kernel
theorem dX11_person_36 : decode cX11_person 36 = .ok (.getfield 32, 3) := by decide +kernel
theorem dX11_person_39 : decode cX11_person 39 = .ok (.getfield 277, 3) := by decide +kernel
theorem dX11_person_42 : decode cX11_person 42 = .ok (.getfield 294, 3) := by decide +kernel
theorem dX11_person_45 : decode cX11_person 45 = .ok (.bipush 60, 2) := by decide +kernel
theorem dX11_person_47 : decode cX11_person 47 = .ok (.if_icmp .lt 5, 3) := by decide +kernel
theorem dX11_person_50 : decode cX11_person 50 = .ok (.iconst (-1), 1) := by decide +kernel
theorem dX11_person_51 : decode cX11_person 51 = .ok (.ireturn, 1) := by decide +kernel
theorem dX11_person_52 : decode cX11_person 52 = .ok (.aload_n 0, 1) := by decide +kernel
theorem dX11_person_53 : decode cX11_person 53 = .ok (.getfield 32, 3) := by decide +kernel
theorem dX11_person_56 : decode cX11_person 56 = .ok (.getfield 277, 3) := by decide +kernel
theorem dX11_person_59 : decode cX11_person 59 = .ok (.iload_n 1, 1) := by decide +kernel
theorem dX11_person_60 : decode cX11_person 60 = .ok (.iload_n 2, 1) := by decide +kernel
theorem dX11_person_61 : decode cX11_person 61 = .ok (.iload_n 3, 1) := by decide +kernel
theorem dX11_person_62 : decode cX11_person 62 = .ok (.invokevirtual 297, 3) := by decide +kernel
theorem dX11_person_65 : decode cX11_person 65 = .ok (.ireturn, 1) := by decide +kernel
theorem dX11_hears_0 : decode cX11_hears 0 = .ok (.aload_n 0, 1) := by decide +kernel
theorem dX11_hears_1 : decode cX11_hears 1 = .ok (.getfield 32, 3) := by decide +kernel
theorem dX11_hears_4 : decode cX11_hears 4 = .ok (.getfield 277, 3) := by decide +kernel
theorem dX11_hears_7 : decode cX11_hears 7 = .ok (.iload_n 1, 1) := by decide +kernel
theorem dX11_hears_8 : decode cX11_hears 8 = .ok (.invokevirtual 300, 3) := by decide +kernel
theorem dX11_hears_11 : decode cX11_hears 11 = .ok (.ifCond .eq 13, 3) := by decide +kernel
theorem dX11_hears_14 : decode cX11_hears 14 = .ok (.iload_n 2, 1) := by decide +kernel
theorem dX11_hears_15 : decode cX11_hears 15 = .ok (.iconst 0, 1) := by decide +kernel
theorem dX11_hears_16 : decode cX11_hears 16 = .ok (.bipush 9, 2) := by decide +kernel
theorem dX11_hears_18 : decode cX11_hears 18 = .ok (.invokestatic 85, 3) := by decide +kernel
theorem dX11_hears_21 : decode cX11_hears 21 = .ok (.ifCond .ne 5, 3) := by decide +kernel
theorem dX11_hears_24 : decode cX11_hears 24 = .ok (.iconst 0, 1) := by decide +kernel
theorem dX11_hears_25 : decode cX11_hears 25 = .ok (.ireturn, 1) := by decide +kernel
theorem dX11_hears_26 : decode cX11_hears 26 = .ok (.aload_n 0, 1) := by decide +kernel
theorem dX11_hears_27 : decode cX11_hears 27 = .ok (.getfield 32, 3) := by decide +kernel
theorem dX11_hears_30 : decode cX11_hears 30 = .ok (.getfield 277, 3) := by decide +kernel
theorem dX11_hears_33 : decode cX11_hears 33 = .ok (.getfield 303, 3) := by decide +kernel
theorem dX11_hears_36 : decode cX11_hears 36 = .ok (.iload_n 1, 1) := by decide +kernel
theorem dX11_hears_37 : decode cX11_hears 37 = .ok (.iload_n 2, 1) := by decide +kernel
theorem dX11_hears_38 : decode cX11_hears 38 = .ok (.iastore, 1) := by decide +kernel
theorem dX11_hears_39 : decode cX11_hears 39 = .ok (.iconst 1, 1) := by decide +kernel
theorem dX11_hears_40 : decode cX11_hears 40 = .ok (.ireturn, 1) := by decide +kernel
theorem dX11_offer_0 : decode cX11_offer 0 = .ok (.aload_n 0, 1) := by decide +kernel
theorem dX11_offer_1 : decode cX11_offer 1 = .ok (.getfield 32, 3) := by decide +kernel
theorem dX11_offer_4 : decode cX11_offer 4 = .ok (.getfield 277, 3) := by decide +kernel
theorem dX11_offer_7 : decode cX11_offer 7 = .ok (.iload_n 1, 1) := by decide +kernel
theorem dX11_offer_8 : decode cX11_offer 8 = .ok (.invokevirtual 287, 3) := by decide +kernel
theorem dX11_offer_11 : decode cX11_offer 11 = .ok (.ifCond .eq 22, 3) := by decide +kernel
theorem dX11_offer_14 : decode cX11_offer 14 = .ok (.iload_n 2, 1) := by decide +kernel
theorem dX11_offer_15 : decode cX11_offer 15 = .ok (.iconst 0, 1) := by decide +kernel
theorem dX11_offer_16 : decode cX11_offer 16 = .ok (.sipush 9999, 3) := by decide +kernel
theorem dX11_offer_19 : decode cX11_offer 19 = .ok (.invokestatic 85, 3) := by decide +kernel
theorem dX11_offer_22 : decode cX11_offer 22 = .ok (.ifCond .eq 11, 3) := by decide +kernel
theorem dX11_offer_25 : decode cX11_offer 25 = .ok (.aload_n 0, 1) := by decide +kernel
theorem dX11_offer_26 : decode cX11_offer 26 = .ok (.iload_n 3, 1) := by decide +kernel
theorem dX11_offer_27 : decode cX11_offer 27 = .ok (.invokevirtual 306, 3) := by decide +kernel
theorem dX11_offer_30 : decode cX11_offer 30 = .ok (.ifCond .ne 5, 3) := by decide +kernel
theorem dX11_offer_33 : decode cX11_offer 33 = .ok (.iconst 0, 1) := by decide +kernel
theorem dX11_offer_34 : decode cX11_offer 34 = .ok (.ireturn, 1) := by decide +kernel
theorem dX11_offer_35 : decode cX11_offer 35 = .ok (.aload_n 0, 1) := by decide +kernel
theorem dX11_offer_36 : decode cX11_offer 36 = .ok (.getfield 32, 3) := by decide +kernel
theorem dX11_offer_39 : decode cX11_offer 39 = .ok (.getfield 277, 3) := by decide +kernel
theorem dX11_offer_42 : decode cX11_offer 42 = .ok (.getfield 309, 3) := by decide +kernel
theorem dX11_offer_45 : decode cX11_offer 45 = .ok (.iload_n 1, 1) := by decide +kernel
theorem dX11_offer_46 : decode cX11_offer 46 = .ok (.iload_n 2, 1) := by decide +kernel
theorem dX11_offer_47 : decode cX11_offer 47 = .ok (.iastore, 1) := by decide +kernel
theorem dX11_offer_48 : decode cX11_offer 48 = .ok (.aload_n 0, 1) := by decide +kernel
theorem dX11_offer_49 : decode cX11_offer 49 = .ok (.getfield 32, 3) := by decide +kernel
theorem dX11_offer_52 : decode cX11_offer 52 = .ok (.getfield 277, 3) := by decide +kernel
theorem dX11_offer_55 : decode cX11_offer 55 = .ok (.getfield 312, 3) := by decide +kernel
theorem dX11_offer_58 : decode cX11_offer 58 = .ok (.iload_n 1, 1) := by decide +kernel
theorem dX11_offer_59 : decode cX11_offer 59 = .ok (.iload_n 3, 1) := by decide +kernel
theorem dX11_offer_60 : decode cX11_offer 60 = .ok (.iastore, 1) := by decide +kernel
theorem dX11_offer_61 : decode cX11_offer 61 = .ok (.iconst 1, 1) := by decide +kernel
theorem dX11_offer_62 : decode cX11_offer 62 = .ok (.ireturn, 1) := by decide +kernel
theorem dX11_pull_0 : decode cX11_pull 0 = .ok (.iload_n 1, 1) := by decide +kernel
theorem dX11_pull_1 : decode cX11_pull 1 = .ok (.iconst 0, 1) := by decide +kernel
theorem dX11_pull_2 : decode cX11_pull 2 = .ok (.sipush 999, 3) := by decide +kernel
theorem dX11_pull_5 : decode cX11_pull 5 = .ok (.invokestatic 85, 3) := by decide +kernel
theorem dX11_pull_8 : decode cX11_pull 8 = .ok (.ifCond .ne 5, 3) := by decide +kernel
theorem dX11_pull_11 : decode cX11_pull 11 = .ok (.iconst 0, 1) := by decide +kernel
theorem dX11_pull_12 : decode cX11_pull 12 = .ok (.ireturn, 1) := by decide +kernel
theorem dX11_pull_13 : decode cX11_pull 13 = .ok (.aload_n 0, 1) := by decide +kernel
theorem dX11_pull_14 : decode cX11_pull 14 = .ok (.getfield 32, 3) := by decide +kernel
theorem dX11_pull_17 : decode cX11_pull 17 = .ok (.getfield 277, 3) := by decide +kernel
theorem dX11_pull_20 : decode cX11_pull 20 = .ok (.iload_n 1, 1) := by decide +kernel
theorem dX11_pull_21 : decode cX11_pull 21 = .ok (.putfield 315, 3) := by decide +kernel
theorem dX11_pull_24 : decode cX11_pull 24 = .ok (.iconst 1, 1) := by decide +kernel
theorem dX11_pull_25 : decode cX11_pull 25 = .ok (.ireturn, 1) := by decide +kernel
theorem dX11_gone_0 : decode cX11_gone 0 = .ok (.aload_n 0, 1) := by decide +kernel
theorem dX11_gone_1 : decode cX11_gone 1 = .ok (.getfield 32, 3) := by decide +kernel
theorem dX11_gone_4 : decode cX11_gone 4 = .ok (.getfield 277, 3) := by decide +kernel
theorem dX11_gone_7 : decode cX11_gone 7 = .ok (.iload_n 1, 1) := by decide +kernel
theorem dX11_gone_8 : decode cX11_gone 8 = .ok (.invokevirtual 300, 3) := by decide +kernel
theorem dX11_gone_11 : decode cX11_gone 11 = .ok (.ifCond .eq 18, 3) := by decide +kernel
theorem dX11_gone_14 : decode cX11_gone 14 = .ok (.aload_n 0, 1) := by decide +kernel
theorem dX11_gone_15 : decode cX11_gone 15 = .ok (.getfield 32, 3) := by decide +kernel
theorem dX11_gone_18 : decode cX11_gone 18 = .ok (.getfield 277, 3) := by decide +kernel
theorem dX11_gone_21 : decode cX11_gone 21 = .ok (.getfield 318, 3) := by decide +kernel
theorem dX11_gone_24 : decode cX11_gone 24 = .ok (.iload_n 1, 1) := by decide +kernel
theorem dX11_gone_25 : decode cX11_gone 25 = .ok (.iaload, 1) := by decide +kernel
theorem dX11_gone_26 : decode cX11_gone 26 = .ok (.goto 4, 3) := by decide +kernel
theorem dX11_gone_29 : decode cX11_gone 29 = .ok (.iconst (-1), 1) := by decide +kernel
theorem dX11_gone_30 : decode cX11_gone 30 = .ok (.ireturn, 1) := by decide +kernel
theorem dX11_weeks_0 : decode cX11_weeks 0 = .ok (.iload_n 1, 1) := by decide +kernel
theorem dX11_weeks_1 : decode cX11_weeks 1 = .ok (.iconst 1, 1) := by decide +kernel
theorem dX11_weeks_2 : decode cX11_weeks 2 = .ok (.bipush 20, 2) := by decide +kernel
theorem dX11_weeks_4 : decode cX11_weeks 4 = .ok (.invokestatic 85, 3) := by decide +kernel
theorem dX11_weeks_7 : decode cX11_weeks 7 = .ok (.ifCond .eq 17, 3) := by decide +kernel
theorem dX11_weeks_10 : decode cX11_weeks 10 = .ok (.aload_n 0, 1) := by decide +kernel
theorem dX11_weeks_11 : decode cX11_weeks 11 = .ok (.getfield 32, 3) := by decide +kernel
theorem dX11_weeks_14 : decode cX11_weeks 14 = .ok (.getfield 77, 3) := by decide +kernel
theorem dX11_weeks_17 : decode cX11_weeks 17 = .ok (.iload_n 1, 1) := by decide +kernel
theorem dX11_weeks_18 : decode cX11_weeks 18 = .ok (.iadd, 1) := by decide +kernel
theorem dX11_weeks_19 : decode cX11_weeks 19 = .ok (.bipush 100, 2) := by decide +kernel
theorem dX11_weeks_21 : decode cX11_weeks 21 = .ok (.if_icmp .le 5, 3) := by decide +kernel
theorem dX11_weeks_24 : decode cX11_weeks 24 = .ok (.iconst (-1), 1) := by decide +kernel
theorem dX11_weeks_25 : decode cX11_weeks 25 = .ok (.ireturn, 1) := by decide +kernel
theorem dX11_weeks_26 : decode cX11_weeks 26 = .ok (.iconst 0, 1) := by decide +kernel
theorem dX11_weeks_27 : decode cX11_weeks 27 = .ok (.istore_n 2, 1) := by decide +kernel
theorem dX11_weeks_28 : decode cX11_weeks 28 = .ok (.iload_n 2, 1) := by decide +kernel
theorem dX11_weeks_29 : decode cX11_weeks 29 = .ok (.iload_n 1, 1) := by decide +kernel
theorem dX11_weeks_30 : decode cX11_weeks 30 = .ok (.if_icmp .ge 39, 3) := by decide +kernel
theorem dX11_weeks_33 : decode cX11_weeks 33 = .ok (.aload_n 0, 1) := by decide +kernel
theorem dX11_weeks_34 : decode cX11_weeks 34 = .ok (.getfield 32, 3) := by decide +kernel
theorem dX11_weeks_37 : decode cX11_weeks 37 = .ok (.getfield 277, 3) := by decide +kernel
theorem dX11_weeks_40 : decode cX11_weeks 40 = .ok (.aload_n 0, 1) := by decide +kernel
theorem dX11_weeks_41 : decode cX11_weeks 41 = .ok (.getfield 32, 3) := by decide +kernel
theorem dX11_weeks_44 : decode cX11_weeks 44 = .ok (.getfield 77, 3) := by decide +kernel
theorem dX11_weeks_47 : decode cX11_weeks 47 = .ok (.invokevirtual 321, 3) := by decide +kernel
theorem dX11_weeks_50 : decode cX11_weeks 50 = .ok (.aload_n 0, 1) := by decide +kernel
theorem dX11_weeks_51 : decode cX11_weeks 51 = .ok (.getfield 32, 3) := by decide +kernel
theorem dX11_weeks_54 : decode cX11_weeks 54 = .ok (.dup, 1) := by decide +kernel
theorem dX11_weeks_55 : decode cX11_weeks 55 = .ok (.getfield 77, 3) := by decide +kernel
theorem dX11_weeks_58 : decode cX11_weeks 58 = .ok (.iconst 1, 1) := by decide +kernel
theorem dX11_weeks_59 : decode cX11_weeks 59 = .ok (.iadd, 1) := by decide +kernel
theorem dX11_weeks_60 : decode cX11_weeks 60 = .ok (.putfield 77, 3) := by decide +kernel
theorem dX11_weeks_63 : decode cX11_weeks 63 = .ok (.iinc 2 1, 3) := by decide +kernel
theorem dX11_weeks_66 : decode cX11_weeks 66 = .ok (.goto (-38), 3) := by decide +kernel
theorem dX11_weeks_69 : decode cX11_weeks 69 = .ok (.aload_n 0, 1) := by decide +kernel
theorem dX11_weeks_70 : decode cX11_weeks 70 = .ok (.getfield 32, 3) := by decide +kernel
theorem dX11_weeks_73 : decode cX11_weeks 73 = .ok (.getfield 180, 3) := by decide +kernel
theorem dX11_weeks_76 : decode cX11_weeks 76 = .ok (.invokevirtual 184, 3) := by decide +kernel
theorem dX11_weeks_79 : decode cX11_weeks 79 = .ok (.aload_n 0, 1) := by decide +kernel
theorem dX11_weeks_80 : decode cX11_weeks 80 = .ok (.getfield 32, 3) := by decide +kernel
theorem dX11_weeks_83 : decode cX11_weeks 83 = .ok (.getfield 77, 3) := by decide +kernel
theorem dX11_weeks_86 : decode cX11_weeks 86 = .ok (.ireturn, 1) := by decide +kernel
theorem dX11_feed_0 : decode cX11_feed 0 = .ok (.aload_n 0, 1) := by decide +kernel
theorem dX11_feed_1 : decode cX11_feed 1 = .ok (.getfield 53, 3) := by decide +kernel
theorem dX11_feed_4 : decode cX11_feed 4 = .ok (.bipush 20, 2) := by decide +kernel
theorem dX11_feed_6 : decode cX11_feed 6 = .ok (.invokevirtual 324, 3) := by decide +kernel
theorem dX11_feed_9 : decode cX11_feed 9 = .ok (.ifCond .ne 5, 3) := by decide +kernel
theorem dX11_feed_12 : decode cX11_feed 12 = .ok (.iconst (-1), 1) := by decide +kernel
theorem dX11_feed_13 : decode cX11_feed 13 = .ok (.ireturn, 1) := by decide +kernel
theorem dX11_feed_14 : decode cX11_feed 14 = .ok (.aload_n 0, 1) := by decide +kernel
theorem dX11_feed_15 : decode cX11_feed 15 = .ok (.getfield 53, 3) := by decide +kernel
theorem dX11_feed_18 : decode cX11_feed 18 = .ok (.iload_n 1, 1) := by decide +kernel
theorem dX11_feed_19 : decode cX11_feed 19 = .ok (.invokevirtual 327, 3) := by decide +kernel
theorem dX11_feed_22 : decode cX11_feed 22 = .ok (.aload_n 0, 1) := by decide +kernel
theorem dX11_feed_23 : decode cX11_feed 23 = .ok (.getfield 53, 3) := by decide +kernel
theorem dX11_feed_26 : decode cX11_feed 26 = .ok (.iload_n 2, 1) := by decide +kernel
theorem dX11_feed_27 : decode cX11_feed 27 = .ok (.invokevirtual 327, 3) := by decide +kernel
theorem dX11_feed_30 : decode cX11_feed 30 = .ok (.aload_n 0, 1) := by decide +kernel
theorem dX11_feed_31 : decode cX11_feed 31 = .ok (.getfield 53, 3) := by decide +kernel
theorem dX11_feed_34 : decode cX11_feed 34 = .ok (.iload_n 3, 1) := by decide +kernel
theorem dX11_feed_35 : decode cX11_feed 35 = .ok (.invokevirtual 327, 3) := by decide +kernel
theorem dX11_feed_38 : decode cX11_feed 38 = .ok (.aload_n 0, 1) := by decide +kernel
theorem dX11_feed_39 : decode cX11_feed 39 = .ok (.getfield 53, 3) := by decide +kernel
theorem dX11_feed_42 : decode cX11_feed 42 = .ok (.iload 4, 2) := by decide +kernel
theorem dX11_feed_44 : decode cX11_feed 44 = .ok (.invokevirtual 327, 3) := by decide +kernel
theorem dX11_feed_47 : decode cX11_feed 47 = .ok (.aload_n 0, 1) := by decide +kernel
theorem dX11_feed_48 : decode cX11_feed 48 = .ok (.getfield 53, 3) := by decide +kernel
theorem dX11_feed_51 : decode cX11_feed 51 = .ok (.iload 5, 2) := by decide +kernel
theorem dX11_feed_53 : decode cX11_feed 53 = .ok (.invokevirtual 327, 3) := by decide +kernel
theorem dX11_feed_56 : decode cX11_feed 56 = .ok (.aload_n 0, 1) := by decide +kernel
theorem dX11_feed_57 : decode cX11_feed 57 = .ok (.getfield 53, 3) := by decide +kernel
theorem dX11_feed_60 : decode cX11_feed 60 = .ok (.getfield 330, 3) := by decide +kernel
theorem dX11_feed_63 : decode cX11_feed 63 = .ok (.ireturn, 1) := by decide +kernel
theorem dX11_end_0 : decode cX11_end 0 = .ok (.iload_n 1, 1) := by decide +kernel
theorem dX11_end_1 : decode cX11_end 1 = .ok (.iconst 0, 1) := by decide +kernel
theorem dX11_end_2 : decode cX11_end 2 = .ok (.aload_n 0, 1) := by decide +kernel
theorem dX11_end_3 : decode cX11_end 3 = .ok (.getfield 53, 3) := by decide +kernel
theorem dX11_end_6 : decode cX11_end 6 = .ok (.getfield 330, 3) := by decide +kernel
theorem dX11_end_9 : decode cX11_end 9 = .ok (.invokestatic 85, 3) := by decide +kernel
theorem dX11_end_12 : decode cX11_end 12 = .ok (.ifCond .ne 5, 3) := by decide +kernel
theorem dX11_end_15 : decode cX11_end 15 = .ok (.iconst (-1), 1) := by decide +kernel
theorem dX11_end_16 : decode cX11_end 16 = .ok (.ireturn, 1) := by decide +kernel
theorem dX11_end_17 : decode cX11_end 17 = .ok (.aload_n 0, 1) := by decide +kernel
theorem dX11_end_18 : decode cX11_end 18 = .ok (.getfield 53, 3) := by decide +kernel
theorem dX11_end_21 : decode cX11_end 21 = .ok (.iload_n 1, 1) := by decide +kernel
theorem dX11_end_22 : decode cX11_end 22 = .ok (.putfield 330, 3) := by decide +kernel
theorem dX11_end_25 : decode cX11_end 25 = .ok (.iload_n 1, 1) := by decide +kernel
theorem dX11_end_26 : decode cX11_end 26 = .ok (.ireturn, 1) := by decide +kernel
theorem dX11_act_0 : decode cX11_act 0 = .ok (.aload_n 0, 1) := by decide +kernel
theorem dX11_act_1 : decode cX11_act 1 = .ok (.getfield 32, 3) := by decide +kernel
theorem dX11_act_4 : decode cX11_act 4 = .ok (.getfield 333, 3) := by decide +kernel
theorem dX11_act_7 : decode cX11_act 7 = .ok (.getfield 337, 3) := by decide +kernel
theorem dX11_act_10 : decode cX11_act 10 = .ok (.istore_n 1, 1) := by decide +kernel
theorem dX11_act_11 : decode cX11_act 11 = .ok (.iload_n 1, 1) := by decide +kernel
theorem dX11_act_12 : decode cX11_act 12 = .ok (.iconst 0, 1) := by decide +kernel
theorem dX11_act_13 : decode cX11_act 13 = .ok (.bipush 9, 2) := by decide +kernel
theorem dX11_act_15 : decode cX11_act 15 = .ok (.invokestatic 85, 3) := by decide +kernel
theorem dX11_act_18 : decode cX11_act 18 = .ok (.ifCond .eq 19, 3) := by decide +kernel
theorem dX11_act_21 : decode cX11_act 21 = .ok (.aload_n 0, 1) := by decide +kernel
theorem dX11_act_22 : decode cX11_act 22 = .ok (.getfield 53, 3) := by decide +kernel
theorem dX11_act_25 : decode cX11_act 25 = .ok (.aload_n 0, 1) := by decide +kernel
theorem dX11_act_26 : decode cX11_act 26 = .ok (.getfield 59, 3) := by decide +kernel
theorem dX11_act_29 : decode cX11_act 29 = .ok (.iload_n 1, 1) := by decide +kernel
theorem dX11_act_30 : decode cX11_act 30 = .ok (.aaload, 1) := by decide +kernel
theorem dX11_act_31 : decode cX11_act 31 = .ok (.invokevirtual 342, 3) := by decide +kernel
theorem dX11_act_34 : decode cX11_act 34 = .ok (.ifCond .ne 5, 3) := by decide +kernel
theorem dX11_act_37 : decode cX11_act 37 = .ok (.iconst (-1), 1) := by decide +kernel
theorem dX11_act_38 : decode cX11_act 38 = .ok (.ireturn, 1) := by decide +kernel
theorem dX11_act_39 : decode cX11_act 39 = .ok (.aload_n 0, 1) := by decide +kernel
theorem dX11_act_40 : decode cX11_act 40 = .ok (.getfield 32, 3) := by decide +kernel
theorem dX11_act_43 : decode cX11_act 43 = .ok (.getfield 333, 3) := by decide +kernel
theorem dX11_act_46 : decode cX11_act 46 = .ok (.dup, 1) := by decide +kernel
theorem dX11_act_47 : decode cX11_act 47 = .ok (.getfield 337, 3) := by decide +kernel
theorem dX11_act_50 : decode cX11_act 50 = .ok (.iconst 1, 1) := by decide +kernel
theorem dX11_act_51 : decode cX11_act 51 = .ok (.iadd, 1) := by decide +kernel
theorem dX11_act_52 : decode cX11_act 52 = .ok (.putfield 337, 3) := by decide +kernel
theorem dX11_act_55 : decode cX11_act 55 = .ok (.iload_n 1, 1) := by decide +kernel
theorem dX11_act_56 : decode cX11_act 56 = .ok (.ireturn, 1) := by decide +kernel
theorem dX11_fault_0 : decode cX11_fault 0 = .ok (.iload_n 1, 1) := by decide +kernel
theorem dX11_fault_1 : decode cX11_fault 1 = .ok (.ifCond .ne 11, 3) := by decide +kernel
theorem dX11_fault_4 : decode cX11_fault 4 = .ok (.aload_n 0, 1) := by decide +kernel
theorem dX11_fault_5 : decode cX11_fault 5 = .ok (.getfield 53, 3) := by decide +kernel
theorem dX11_fault_8 : decode cX11_fault 8 = .ok (.getfield 346, 3) := by decide +kernel
theorem dX11_fault_11 : decode cX11_fault 11 = .ok (.ireturn, 1) := by decide +kernel
theorem dX11_fault_12 : decode cX11_fault 12 = .ok (.iload_n 1, 1) := by decide +kernel
theorem dX11_fault_13 : decode cX11_fault 13 = .ok (.iconst 1, 1) := by decide +kernel
theorem dX11_fault_14 : decode cX11_fault 14 = .ok (.if_icmp .ne 13, 3) := by decide +kernel
theorem dX11_fault_17 : decode cX11_fault 17 = .ok (.aload_n 0, 1) := by decide +kernel
theorem dX11_fault_18 : decode cX11_fault 18 = .ok (.getfield 53, 3) := by decide +kernel
theorem dX11_fault_21 : decode cX11_fault 21 = .ok (.getfield 349, 3) := by decide +kernel
theorem dX11_fault_24 : decode cX11_fault 24 = .ok (.goto 4, 3) := by decide +kernel
theorem dX11_fault_27 : decode cX11_fault 27 = .ok (.iconst (-1), 1) := by decide +kernel
theorem dX11_fault_28 : decode cX11_fault 28 = .ok (.ireturn, 1) := by decide +kernel
theorem dX11_force_0 : decode cX11_force 0 = .ok (.iload_n 1, 1) := by decide +kernel
theorem dX11_force_1 : decode cX11_force 1 = .ok (.iconst 0, 1) := by decide +kernel
theorem dX11_force_2 : decode cX11_force 2 = .ok (.aload_n 0, 1) := by decide +kernel
theorem dX11_force_3 : decode cX11_force 3 = .ok (.getfield 32, 3) := by decide +kernel
theorem dX11_force_6 : decode cX11_force 6 = .ok (.getfield 333, 3) := by decide +kernel
theorem dX11_force_9 : decode cX11_force 9 = .ok (.getfield 337, 3) := by decide +kernel
theorem dX11_force_12 : decode cX11_force 12 = .ok (.iconst 1, 1) := by decide +kernel
theorem dX11_force_13 : decode cX11_force 13 = .ok (.isub, 1) := by decide +kernel
theorem dX11_force_14 : decode cX11_force 14 = .ok (.invokestatic 85, 3) := by decide +kernel
theorem dX11_force_17 : decode cX11_force 17 = .ok (.ifCond .eq 38, 3) := by decide +kernel
theorem dX11_force_20 : decode cX11_force 20 = .ok (.aload_n 0, 1) := by decide +kernel
theorem dX11_force_21 : decode cX11_force 21 = .ok (.iload_n 2, 1) := by decide +kernel
theorem dX11_force_22 : decode cX11_force 22 = .ok (.invokevirtual 306, 3) := by decide +kernel
theorem dX11_force_25 : decode cX11_force 25 = .ok (.ifCond .eq 30, 3) := by decide +kernel
theorem dX11_force_28 : decode cX11_force 28 = .ok (.iload_n 3, 1) := by decide +kernel
theorem dX11_force_29 : decode cX11_force 29 = .ok (.invokestatic 160, 3) := by decide +kernel
theorem dX11_force_32 : decode cX11_force 32 = .ok (.ifCond .eq 23, 3) := by decide +kernel
theorem dX11_force_35 : decode cX11_force 35 = .ok (.iload_n 3, 1) := by decide +kernel
theorem dX11_force_36 : decode cX11_force 36 = .ok (.iload_n 2, 1) := by decide +kernel
theorem dX11_force_37 : decode cX11_force 37 = .ok (.if_icmp .lt 18, 3) := by decide +kernel
theorem dX11_force_40 : decode cX11_force 40 = .ok (.aload_n 0, 1) := by decide +kernel
theorem dX11_force_41 : decode cX11_force 41 = .ok (.getfield 32, 3) := by decide +kernel
theorem dX11_force_44 : decode cX11_force 44 = .ok (.getfield 333, 3) := by decide +kernel
theorem dX11_force_47 : decode cX11_force 47 = .ok (.getfield 352, 3) := by decide +kernel
theorem dX11_force_50 : decode cX11_force 50 = .ok (.bipush 30, 2) := by decide +kernel
theorem dX11_force_52 : decode cX11_force 52 = .ok (.if_icmp .lt 5, 3) := by decide +kernel
theorem dX11_force_55 : decode cX11_force 55 = .ok (.iconst (-1), 1) := by decide +kernel
theorem dX11_force_56 : decode cX11_force 56 = .ok (.ireturn, 1) := by decide +kernel
theorem dX11_force_57 : decode cX11_force 57 = .ok (.aload_n 0, 1) := by decide +kernel
theorem dX11_force_58 : decode cX11_force 58 = .ok (.getfield 32, 3) := by decide +kernel
theorem dX11_force_61 : decode cX11_force 61 = .ok (.getfield 333, 3) := by decide +kernel
theorem dX11_force_64 : decode cX11_force 64 = .ok (.iload_n 1, 1) := by decide +kernel
theorem dX11_force_65 : decode cX11_force 65 = .ok (.iload_n 2, 1) := by decide +kernel
theorem dX11_force_66 : decode cX11_force 66 = .ok (.iload_n 3, 1) := by decide +kernel
theorem dX11_force_67 : decode cX11_force 67 = .ok (.invokevirtual 355, 3) := by decide +kernel
theorem dX11_force_70 : decode cX11_force 70 = .ok (.ireturn, 1) := by decide +kernel
theorem dX11_by_0 : decode cX11_by 0 = .ok (.aload_n 0, 1) := by decide +kernel
theorem dX11_by_1 : decode cX11_by 1 = .ok (.getfield 32, 3) := by decide +kernel
theorem dX11_by_4 : decode cX11_by 4 = .ok (.getfield 277, 3) := by decide +kernel
theorem dX11_by_7 : decode cX11_by 7 = .ok (.iload_n 1, 1) := by decide +kernel
theorem dX11_by_8 : decode cX11_by 8 = .ok (.invokevirtual 287, 3) := by decide +kernel
theorem dX11_by_11 : decode cX11_by 11 = .ok (.ifCond .eq 19, 3) := by decide +kernel
theorem dX11_by_14 : decode cX11_by 14 = .ok (.iload_n 2, 1) := by decide +kernel
theorem dX11_by_15 : decode cX11_by 15 = .ok (.invokestatic 160, 3) := by decide +kernel
theorem dX11_by_18 : decode cX11_by 18 = .ok (.ifCond .eq 12, 3) := by decide +kernel
theorem dX11_by_21 : decode cX11_by 21 = .ok (.iload_n 3, 1) := by decide +kernel
theorem dX11_by_22 : decode cX11_by 22 = .ok (.iconst 0, 1) := by decide +kernel
theorem dX11_by_23 : decode cX11_by 23 = .ok (.iconst 2, 1) := by decide +kernel
theorem dX11_by_24 : decode cX11_by 24 = .ok (.invokestatic 85, 3) := by decide +kernel
theorem dX11_by_27 : decode cX11_by 27 = .ok (.ifCond .ne 5, 3) := by decide +kernel
theorem dX11_by_30 : decode cX11_by 30 = .ok (.iconst (-1), 1) := by decide +kernel
theorem dX11_by_31 : decode cX11_by 31 = .ok (.ireturn, 1) := by decide +kernel
theorem dX11_by_32 : decode cX11_by 32 = .ok (.aload_n 0, 1) := by decide +kernel
theorem dX11_by_33 : decode cX11_by 33 = .ok (.iload_n 2, 1) := by decide +kernel
theorem dX11_by_34 : decode cX11_by 34 = .ok (.invokevirtual 236, 3) := by decide +kernel
theorem dX11_by_37 : decode cX11_by 37 = .ok (.iload_n 3, 1) := by decide +kernel
theorem dX11_by_38 : decode cX11_by 38 = .ok (.ifCond .ne 12, 3) := by decide +kernel
theorem dX11_by_41 : decode cX11_by 41 = .ok (.aload_n 0, 1) := by decide +kernel
theorem dX11_by_42 : decode cX11_by 42 = .ok (.iload_n 1, 1) := by decide +kernel
theorem dX11_by_43 : decode cX11_by 43 = .ok (.iload_n 2, 1) := by decide +kernel
theorem dX11_by_44 : decode cX11_by 44 = .ok (.invokevirtual 358, 3) := by decide +kernel
theorem dX11_by_47 : decode cX11_by 47 = .ok (.goto 19, 3) := by decide +kernel
theorem dX11_by_50 : decode cX11_by 50 = .ok (.aload_n 0, 1) := by decide +kernel
theorem dX11_by_51 : decode cX11_by 51 = .ok (.iload_n 1, 1) := by decide +kernel
theorem dX11_by_52 : decode cX11_by 52 = .ok (.iload_n 2, 1) := by decide +kernel
theorem dX11_by_53 : decode cX11_by 53 = .ok (.iload_n 3, 1) := by decide +kernel
theorem dX11_by_54 : decode cX11_by 54 = .ok (.iconst 1, 1) := by decide +kernel
theorem dX11_by_55 : decode cX11_by 55 = .ok (.if_icmp .ne 7, 3) := by decide +kernel
theorem dX11_by_58 : decode cX11_by 58 = .ok (.iconst 1, 1) := by decide +kernel
theorem dX11_by_59 : decode cX11_by 59 = .ok (.goto 4, 3) := by decide +kernel
theorem dX11_by_62 : decode cX11_by 62 = .ok (.iconst 0, 1) := by decide +kernel
theorem dX11_by_63 : decode cX11_by 63 = .ok (.invokevirtual 361, 3) := by decide +kernel
theorem dX11_by_66 : decode cX11_by 66 = .ok (.ireturn, 1) := by decide +kernel
theorem dX11_whose_0 : decode cX11_whose 0 = .ok (.iload_n 1, 1) := by decide +kernel
theorem dX11_whose_1 : decode cX11_whose 1 = .ok (.invokestatic 160, 3) := by decide +kernel
theorem dX11_whose_4 : decode cX11_whose 4 = .ok (.ifCond .eq 12, 3) := by decide +kernel
theorem dX11_whose_7 : decode cX11_whose 7 = .ok (.aload_n 0, 1) := by decide +kernel
theorem dX11_whose_8 : decode cX11_whose 8 = .ok (.iconst 2, 1) := by decide +kernel
theorem dX11_whose_9 : decode cX11_whose 9 = .ok (.iload_n 1, 1) := by decide +kernel
theorem dX11_whose_10 : decode cX11_whose 10 = .ok (.invokevirtual 365, 3) := by decide +kernel
theorem dX11_whose_13 : decode cX11_whose 13 = .ok (.goto 4, 3) := by decide +kernel
theorem dX11_whose_16 : decode cX11_whose 16 = .ok (.aconst_null, 1) := by decide +kernel
theorem dX11_whose_17 : decode cX11_whose 17 = .ok (.astore_n 2, 1) := by decide +kernel
theorem dX11_whose_18 : decode cX11_whose 18 = .ok (.aload_n 2, 1) := by decide +kernel
theorem dX11_whose_19 : decode cX11_whose 19 = .ok (.ifnonnull 5, 3) := by decide +kernel
theorem dX11_whose_22 : decode cX11_whose 22 = .ok (.iconst (-1), 1) := by decide +kernel
theorem dX11_whose_23 : decode cX11_whose 23 = .ok (.ireturn, 1) := by decide +kernel
theorem dX11_whose_24 : decode cX11_whose 24 = .ok (.aload_n 0, 1) := by decide +kernel
theorem dX11_whose_25 : decode cX11_whose 25 = .ok (.getfield 64, 3) := by decide +kernel
theorem dX11_whose_28 : decode cX11_whose 28 = .ok (.iconst 3, 1) := by decide +kernel
theorem dX11_whose_29 : decode cX11_whose 29 = .ok (.iload_n 1, 1) := by decide +kernel
theorem dX11_whose_30 : decode cX11_whose 30 = .ok (.iastore, 1) := by decide +kernel
theorem dX11_whose_31 : decode cX11_whose 31 = .ok (.aload_n 0, 1) := by decide +kernel
theorem dX11_whose_32 : decode cX11_whose 32 = .ok (.getfield 64, 3) := by decide +kernel
theorem dX11_whose_35 : decode cX11_whose 35 = .ok (.iconst 4, 1) := by decide +kernel
theorem dX11_whose_36 : decode cX11_whose 36 = .ok (.aload_n 0, 1) := by decide +kernel
theorem dX11_whose_37 : decode cX11_whose 37 = .ok (.getfield 32, 3) := by decide +kernel
theorem dX11_whose_40 : decode cX11_whose 40 = .ok (.getfield 277, 3) := by decide +kernel
theorem dX11_whose_43 : decode cX11_whose 43 = .ok (.getfield 294, 3) := by decide +kernel
theorem dX11_whose_46 : decode cX11_whose 46 = .ok (.aload_n 0, 1) := by decide +kernel
theorem dX11_whose_47 : decode cX11_whose 47 = .ok (.getfield 32, 3) := by decide +kernel
theorem dX11_whose_50 : decode cX11_whose 50 = .ok (.getfield 277, 3) := by decide +kernel
theorem dX11_whose_53 : decode cX11_whose 53 = .ok (.invokevirtual 369, 3) := by decide +kernel
theorem dX11_whose_56 : decode cX11_whose 56 = .ok (.isub, 1) := by decide +kernel
theorem dX11_whose_57 : decode cX11_whose 57 = .ok (.iastore, 1) := by decide +kernel
theorem dX11_whose_58 : decode cX11_whose 58 = .ok (.iconst 0, 1) := by decide +kernel
theorem dX11_whose_59 : decode cX11_whose 59 = .ok (.istore_n 3, 1) := by decide +kernel
theorem dX11_whose_60 : decode cX11_whose 60 = .ok (.iload_n 3, 1) := by decide +kernel
theorem dX11_whose_61 : decode cX11_whose 61 = .ok (.aload_n 2, 1) := by decide +kernel
theorem dX11_whose_62 : decode cX11_whose 62 = .ok (.getfield 372, 3) := by decide +kernel
theorem dX11_whose_65 : decode cX11_whose 65 = .ok (.if_icmp .ge 42, 3) := by decide +kernel
theorem dX11_whose_68 : decode cX11_whose 68 = .ok (.aload_n 2, 1) := by decide +kernel
theorem dX11_whose_69 : decode cX11_whose 69 = .ok (.getfield 375, 3) := by decide +kernel
theorem dX11_whose_72 : decode cX11_whose 72 = .ok (.iload_n 3, 1) := by decide +kernel
theorem dX11_whose_73 : decode cX11_whose 73 = .ok (.iaload, 1) := by decide +kernel
theorem dX11_whose_74 : decode cX11_whose 74 = .ok (.iconst 2, 1) := by decide +kernel
theorem dX11_whose_75 : decode cX11_whose 75 = .ok (.if_icmp .ne 26, 3) := by decide +kernel
theorem dX11_whose_78 : decode cX11_whose 78 = .ok (.aload_n 2, 1) := by decide +kernel
theorem dX11_whose_79 : decode cX11_whose 79 = .ok (.iload_n 3, 1) := by decide +kernel
theorem dX11_whose_80 : decode cX11_whose 80 = .ok (.aload_n 0, 1) := by decide +kernel
theorem dX11_whose_81 : decode cX11_whose 81 = .ok (.getfield 64, 3) := by decide +kernel
theorem dX11_whose_84 : decode cX11_whose 84 = .ok (.aload_n 0, 1) := by decide +kernel
theorem dX11_whose_85 : decode cX11_whose 85 = .ok (.getfield 68, 3) := by decide +kernel
theorem dX11_whose_88 : decode cX11_whose 88 = .ok (.invokevirtual 378, 3) := by decide +kernel
theorem dX11_whose_91 : decode cX11_whose 91 = .ok (.ifCond .eq 10, 3) := by decide +kernel
theorem dX11_whose_94 : decode cX11_whose 94 = .ok (.aload_n 2, 1) := by decide +kernel
theorem dX11_whose_95 : decode cX11_whose 95 = .ok (.getfield 382, 3) := by decide +kernel
theorem dX11_whose_98 : decode cX11_whose 98 = .ok (.iload_n 3, 1) := by decide +kernel
theorem dX11_whose_99 : decode cX11_whose 99 = .ok (.iaload, 1) := by decide +kernel
theorem dX11_whose_100 : decode cX11_whose 100 = .ok (.ireturn, 1) := by decide +kernel
theorem dX11_whose_101 : decode cX11_whose 101 = .ok (.iinc 3 1, 3) := by decide +kernel
theorem dX11_whose_104 : decode cX11_whose 104 = .ok (.goto (-44), 3) := by decide +kernel
theorem dX11_whose_107 : decode cX11_whose 107 = .ok (.iconst (-1), 1) := by decide +kernel
theorem dX11_whose_108 : decode cX11_whose 108 = .ok (.ireturn, 1) := by decide +kernel
theorem dX11_vote_0 : decode cX11_vote 0 = .ok (.iload_n 1, 1) := by decide +kernel
theorem dX11_vote_1 : decode cX11_vote 1 = .ok (.invokestatic 160, 3) := by decide +kernel
theorem dX11_vote_4 : decode cX11_vote 4 = .ok (.ifCond .eq 12, 3) := by decide +kernel
theorem dX11_vote_7 : decode cX11_vote 7 = .ok (.iload_n 2, 1) := by decide +kernel
theorem dX11_vote_8 : decode cX11_vote 8 = .ok (.iconst 0, 1) := by decide +kernel
theorem dX11_vote_9 : decode cX11_vote 9 = .ok (.iconst 2, 1) := by decide +kernel
theorem dX11_vote_10 : decode cX11_vote 10 = .ok (.invokestatic 85, 3) := by decide +kernel
theorem dX11_vote_13 : decode cX11_vote 13 = .ok (.ifCond .ne 5, 3) := by decide +kernel
theorem dX11_vote_16 : decode cX11_vote 16 = .ok (.iconst (-1), 1) := by decide +kernel
theorem dX11_vote_17 : decode cX11_vote 17 = .ok (.ireturn, 1) := by decide +kernel
theorem dX11_vote_18 : decode cX11_vote 18 = .ok (.aload_n 0, 1) := by decide +kernel
theorem dX11_vote_19 : decode cX11_vote 19 = .ok (.iload_n 1, 1) := by decide +kernel
theorem dX11_vote_20 : decode cX11_vote 20 = .ok (.invokevirtual 236, 3) := by decide +kernel
theorem dX11_vote_23 : decode cX11_vote 23 = .ok (.aload_n 0, 1) := by decide +kernel
theorem dX11_vote_24 : decode cX11_vote 24 = .ok (.getfield 32, 3) := by decide +kernel
theorem dX11_vote_27 : decode cX11_vote 27 = .ok (.getfield 277, 3) := by decide +kernel
theorem dX11_vote_30 : decode cX11_vote 30 = .ok (.getfield 294, 3) := by decide +kernel
theorem dX11_vote_33 : decode cX11_vote 33 = .ok (.aload_n 0, 1) := by decide +kernel
theorem dX11_vote_34 : decode cX11_vote 34 = .ok (.getfield 32, 3) := by decide +kernel
theorem dX11_vote_37 : decode cX11_vote 37 = .ok (.getfield 277, 3) := by decide +kernel
theorem dX11_vote_40 : decode cX11_vote 40 = .ok (.invokevirtual 369, 3) := by decide +kernel
theorem dX11_vote_43 : decode cX11_vote 43 = .ok (.isub, 1) := by decide +kernel
theorem dX11_vote_44 : decode cX11_vote 44 = .ok (.istore_n 3, 1) := by decide +kernel
theorem dX11_vote_45 : decode cX11_vote 45 = .ok (.aload_n 0, 1) := by decide +kernel
theorem dX11_vote_46 : decode cX11_vote 46 = .ok (.iload_n 1, 1) := by decide +kernel
theorem dX11_vote_47 : decode cX11_vote 47 = .ok (.invokevirtual 385, 3) := by decide +kernel
theorem dX11_vote_50 : decode cX11_vote 50 = .ok (.istore 4, 2) := by decide +kernel
theorem dX11_vote_52 : decode cX11_vote 52 = .ok (.iload_n 2, 1) := by decide +kernel
theorem dX11_vote_53 : decode cX11_vote 53 = .ok (.iconst 2, 1) := by decide +kernel
theorem dX11_vote_54 : decode cX11_vote 54 = .ok (.if_icmp .ge 17, 3) := by decide +kernel
theorem dX11_vote_57 : decode cX11_vote 57 = .ok (.iload_n 2, 1) := by decide +kernel
theorem dX11_vote_58 : decode cX11_vote 58 = .ok (.ifCond .ne 8, 3) := by decide +kernel
theorem dX11_vote_61 : decode cX11_vote 61 = .ok (.iload 4, 2) := by decide +kernel
theorem dX11_vote_63 : decode cX11_vote 63 = .ok (.goto 7, 3) := by decide +kernel
theorem dX11_vote_66 : decode cX11_vote 66 = .ok (.iload_n 3, 1) := by decide +kernel
theorem dX11_vote_67 : decode cX11_vote 67 = .ok (.iload 4, 2) := by decide +kernel
theorem dX11_vote_69 : decode cX11_vote 69 = .ok (.isub, 1) := by decide +kernel
theorem dX11_vote_70 : decode cX11_vote 70 = .ok (.ireturn, 1) := by decide +kernel
theorem dX11_vote_71 : decode cX11_vote 71 = .ok (.iload_n 3, 1) := by decide +kernel
theorem dX11_vote_72 : decode cX11_vote 72 = .ok (.ifCond .ne 7, 3) := by decide +kernel
theorem dX11_vote_75 : decode cX11_vote 75 = .ok (.iconst (-1), 1) := by decide +kernel
theorem dX11_vote_76 : decode cX11_vote 76 = .ok (.goto 13, 3) := by decide +kernel
theorem dX11_vote_79 : decode cX11_vote 79 = .ok (.aload_n 0, 1) := by decide +kernel
theorem dX11_vote_80 : decode cX11_vote 80 = .ok (.iload 4, 2) := by decide +kernel
theorem dX11_vote_82 : decode cX11_vote 82 = .ok (.iload_n 3, 1) := by decide +kernel
theorem dX11_vote_83 : decode cX11_vote 83 = .ok (.iload 4, 2) := by decide +kernel
theorem dX11_vote_85 : decode cX11_vote 85 = .ok (.isub, 1) := by decide +kernel
theorem dX11_vote_86 : decode cX11_vote 86 = .ok (.invokevirtual 388, 3) := by decide +kernel
theorem dX11_vote_89 : decode cX11_vote 89 = .ok (.ireturn, 1) := by decide +kernel
theorem dX11_place_0 : decode cX11_place 0 = .ok (.aload_n 0, 1) := by decide +kernel
theorem dX11_place_1 : decode cX11_place 1 = .ok (.iload_n 1, 1) := by decide +kernel
theorem dX11_place_2 : decode cX11_place 2 = .ok (.invokevirtual 133, 3) := by decide +kernel
theorem dX11_place_5 : decode cX11_place 5 = .ok (.ifCond .eq 29, 3) := by decide +kernel
theorem dX11_place_8 : decode cX11_place 8 = .ok (.iload_n 2, 1) := by decide +kernel
theorem dX11_place_9 : decode cX11_place 9 = .ok (.iconst 0, 1) := by decide +kernel
theorem dX11_place_10 : decode cX11_place 10 = .ok (.sipush 9999, 3) := by decide +kernel
theorem dX11_place_13 : decode cX11_place 13 = .ok (.invokestatic 85, 3) := by decide +kernel
theorem dX11_place_16 : decode cX11_place 16 = .ok (.ifCond .eq 18, 3) := by decide +kernel
theorem dX11_place_19 : decode cX11_place 19 = .ok (.aload_n 0, 1) := by decide +kernel
theorem dX11_place_20 : decode cX11_place 20 = .ok (.getfield 32, 3) := by decide +kernel
theorem dX11_place_23 : decode cX11_place 23 = .ok (.getfield 180, 3) := by decide +kernel
theorem dX11_place_26 : decode cX11_place 26 = .ok (.getfield 391, 3) := by decide +kernel
theorem dX11_place_29 : decode cX11_place 29 = .ok (.bipush 6, 2) := by decide +kernel
theorem dX11_place_31 : decode cX11_place 31 = .ok (.if_icmp .lt 5, 3) := by decide +kernel
theorem dX11_place_34 : decode cX11_place 34 = .ok (.iconst (-1), 1) := by decide +kernel
theorem dX11_place_35 : decode cX11_place 35 = .ok (.ireturn, 1) := by decide +kernel
theorem dX11_place_36 : decode cX11_place 36 = .ok (.aload_n 0, 1) := by decide +kernel
theorem dX11_place_37 : decode cX11_place 37 = .ok (.getfield 32, 3) := by decide +kernel
theorem dX11_place_40 : decode cX11_place 40 = .ok (.getfield 180, 3) := by decide +kernel
theorem dX11_place_43 : decode cX11_place 43 = .ok (.iload_n 1, 1) := by decide +kernel
theorem dX11_place_44 : decode cX11_place 44 = .ok (.iload_n 2, 1) := by decide +kernel
theorem dX11_place_45 : decode cX11_place 45 = .ok (.invokevirtual 394, 3) := by decide +kernel
theorem dX11_place_48 : decode cX11_place 48 = .ok (.ireturn, 1) := by decide +kernel
theorem dX11_best_0 : decode cX11_best 0 = .ok (.iload_n 1, 1) := by decide +kernel
theorem dX11_best_1 : decode cX11_best 1 = .ok (.iconst 0, 1) := by decide +kernel
theorem dX11_best_2 : decode cX11_best 2 = .ok (.ldc_w 397, 3) := by decide +kernel
theorem dX11_best_5 : decode cX11_best 5 = .ok (.invokestatic 85, 3) := by decide +kernel
theorem dX11_best_8 : decode cX11_best 8 = .ok (.ifCond .eq 34, 3) := by decide +kernel
theorem dX11_best_11 : decode cX11_best 11 = .ok (.aload_n 0, 1) := by decide +kernel
theorem dX11_best_12 : decode cX11_best 12 = .ok (.iload_n 2, 1) := by decide +kernel
theorem dX11_best_13 : decode cX11_best 13 = .ok (.invokevirtual 306, 3) := by decide +kernel
theorem dX11_best_16 : decode cX11_best 16 = .ok (.ifCond .eq 26, 3) := by decide +kernel
theorem dX11_best_19 : decode cX11_best 19 = .ok (.iload_n 2, 1) := by decide +kernel
theorem dX11_best_20 : decode cX11_best 20 = .ok (.aload_n 0, 1) := by decide +kernel
theorem dX11_best_21 : decode cX11_best 21 = .ok (.getfield 32, 3) := by decide +kernel
theorem dX11_best_24 : decode cX11_best 24 = .ok (.getfield 77, 3) := by decide +kernel
theorem dX11_best_27 : decode cX11_best 27 = .ok (.bipush 30, 2) := by decide +kernel
theorem dX11_best_29 : decode cX11_best 29 = .ok (.iadd, 1) := by decide +kernel
theorem dX11_best_30 : decode cX11_best 30 = .ok (.if_icmp .gt 12, 3) := by decide +kernel
theorem dX11_best_33 : decode cX11_best 33 = .ok (.iload_n 3, 1) := by decide +kernel
theorem dX11_best_34 : decode cX11_best 34 = .ok (.iconst 0, 1) := by decide +kernel
theorem dX11_best_35 : decode cX11_best 35 = .ok (.iconst 2, 1) := by decide +kernel
theorem dX11_best_36 : decode cX11_best 36 = .ok (.invokestatic 85, 3) := by decide +kernel
theorem dX11_best_39 : decode cX11_best 39 = .ok (.ifCond .ne 5, 3) := by decide +kernel
theorem dX11_best_42 : decode cX11_best 42 = .ok (.iconst (-1), 1) := by decide +kernel
theorem dX11_best_43 : decode cX11_best 43 = .ok (.ireturn, 1) := by decide +kernel
theorem dX11_best_44 : decode cX11_best 44 = .ok (.aload_n 0, 1) := by decide +kernel
theorem dX11_best_45 : decode cX11_best 45 = .ok (.aload_n 0, 1) := by decide +kernel
theorem dX11_best_46 : decode cX11_best 46 = .ok (.getfield 32, 3) := by decide +kernel
theorem dX11_best_49 : decode cX11_best 49 = .ok (.getfield 77, 3) := by decide +kernel
theorem dX11_best_52 : decode cX11_best 52 = .ok (.invokevirtual 236, 3) := by decide +kernel
theorem dX11_best_55 : decode cX11_best 55 = .ok (.aload_n 0, 1) := by decide +kernel
theorem dX11_best_56 : decode cX11_best 56 = .ok (.invokevirtual 239, 3) := by decide +kernel
theorem dX11_best_59 : decode cX11_best 59 = .ok (.istore 4, 2) := by decide +kernel
theorem dX11_best_61 : decode cX11_best 61 = .ok (.iload 4, 2) := by decide +kernel
theorem dX11_best_63 : decode cX11_best 63 = .ok (.ifCond .ne 5, 3) := by decide +kernel
theorem dX11_best_66 : decode cX11_best 66 = .ok (.iconst (-1), 1) := by decide +kernel
theorem dX11_best_67 : decode cX11_best 67 = .ok (.ireturn, 1) := by decide +kernel
theorem dX11_best_68 : decode cX11_best 68 = .ok (.aload_n 0, 1) := by decide +kernel
theorem dX11_best_69 : decode cX11_best 69 = .ok (.getfield 32, 3) := by decide +kernel
theorem dX11_best_72 : decode cX11_best 72 = .ok (.getfield 180, 3) := by decide +kernel
theorem dX11_best_75 : decode cX11_best 75 = .ok (.astore 5, 2) := by decide +kernel
theorem dX11_best_77 : decode cX11_best 77 = .ok (.aload 5, 2) := by decide +kernel
theorem dX11_best_79 : decode cX11_best 79 = .ok (.getfield 398, 3) := by decide +kernel
theorem dX11_best_82 : decode cX11_best 82 = .ok (.iload_n 1, 1) := by decide +kernel
theorem dX11_best_83 : decode cX11_best 83 = .ok (.if_icmp .ne 12, 3) := by decide +kernel
theorem dX11_best_86 : decode cX11_best 86 = .ok (.aload 5, 2) := by decide +kernel
theorem dX11_best_88 : decode cX11_best 88 = .ok (.getfield 401, 3) := by decide +kernel
theorem dX11_best_91 : decode cX11_best 91 = .ok (.iload_n 2, 1) := by decide +kernel
theorem dX11_best_92 : decode cX11_best 92 = .ok (.if_icmp .eq 11, 3) := by decide +kernel
theorem dX11_best_95 : decode cX11_best 95 = .ok (.aload_n 0, 1) := by decide +kernel
theorem dX11_best_96 : decode cX11_best 96 = .ok (.iload_n 1, 1) := by decide +kernel
theorem dX11_best_97 : decode cX11_best 97 = .ok (.iload_n 2, 1) := by decide +kernel
theorem dX11_best_98 : decode cX11_best 98 = .ok (.iload 4, 2) := by decide +kernel
theorem dX11_best_100 : decode cX11_best 100 = .ok (.invokevirtual 404, 3) := by decide +kernel
theorem dX11_best_103 : decode cX11_best 103 = .ok (.iload_n 3, 1) := by decide +kernel
theorem dX11_best_104 : decode cX11_best 104 = .ok (.ifCond .ne 9, 3) := by decide +kernel
theorem dX11_best_107 : decode cX11_best 107 = .ok (.aload 5, 2) := by decide +kernel
theorem dX11_best_109 : decode cX11_best 109 = .ok (.getfield 407, 3) := by decide +kernel
theorem dX11_best_112 : decode cX11_best 112 = .ok (.ireturn, 1) := by decide +kernel
theorem dX11_best_113 : decode cX11_best 113 = .ok (.iload_n 3, 1) := by decide +kernel
theorem dX11_best_114 : decode cX11_best 114 = .ok (.iconst 1, 1) := by decide +kernel
theorem dX11_best_115 : decode cX11_best 115 = .ok (.if_icmp .ne 11, 3) := by decide +kernel
theorem dX11_best_118 : decode cX11_best 118 = .ok (.aload 5, 2) := by decide +kernel
theorem dX11_best_120 : decode cX11_best 120 = .ok (.getfield 410, 3) := by decide +kernel
theorem dX11_best_123 : decode cX11_best 123 = .ok (.goto 8, 3) := by decide +kernel
theorem dX11_best_126 : decode cX11_best 126 = .ok (.aload 5, 2) := by decide +kernel
theorem dX11_best_128 : decode cX11_best 128 = .ok (.getfield 413, 3) := by decide +kernel
theorem dX11_best_131 : decode cX11_best 131 = .ok (.ireturn, 1) := by decide +kernel
theorem dX11_image_0 : decode cX11_image 0 = .ok (.aload_n 0, 1) := by decide +kernel
theorem dX11_image_1 : decode cX11_image 1 = .ok (.getfield 36, 3) := by decide +kernel
theorem dX11_image_4 : decode cX11_image 4 = .ok (.aload_n 0, 1) := by decide +kernel
theorem dX11_image_5 : decode cX11_image 5 = .ok (.getfield 32, 3) := by decide +kernel
theorem dX11_image_8 : decode cX11_image 8 = .ok (.invokevirtual 416, 3) := by decide +kernel
theorem dX11_image_11 : decode cX11_image 11 = .ok (.aload_n 0, 1) := by decide +kernel
theorem dX11_image_12 : decode cX11_image 12 = .ok (.getfield 32, 3) := by decide +kernel
theorem dX11_image_15 : decode cX11_image 15 = .ok (.getfield 77, 3) := by decide +kernel
theorem dX11_image_18 : decode cX11_image 18 = .ok (.ireturn, 1) := by decide +kernel
theorem dX11_back_0 : decode cX11_back 0 = .ok (.aload_n 0, 1) := by decide +kernel
theorem dX11_back_1 : decode cX11_back 1 = .ok (.getfield 32, 3) := by decide +kernel
theorem dX11_back_4 : decode cX11_back 4 = .ok (.aload_n 0, 1) := by decide +kernel
theorem dX11_back_5 : decode cX11_back 5 = .ok (.getfield 36, 3) := by decide +kernel
theorem dX11_back_8 : decode cX11_back 8 = .ok (.invokevirtual 416, 3) := by decide +kernel
theorem dX11_back_11 : decode cX11_back 11 = .ok (.iconst 0, 1) := by decide +kernel
theorem dX11_back_12 : decode cX11_back 12 = .ok (.istore_n 1, 1) := by decide +kernel
theorem dX11_back_13 : decode cX11_back 13 = .ok (.iload_n 1, 1) := by decide +kernel
theorem dX11_back_14 : decode cX11_back 14 = .ok (.aload_n 0, 1) := by decide +kernel
theorem dX11_back_15 : decode cX11_back 15 = .ok (.getfield 32, 3) := by decide +kernel
theorem dX11_back_18 : decode cX11_back 18 = .ok (.getfield 163, 3) := by decide +kernel
theorem dX11_back_21 : decode cX11_back 21 = .ok (.getfield 167, 3) := by decide +kernel
theorem dX11_back_24 : decode cX11_back 24 = .ok (.if_icmp .ge 42, 3) := by decide +kernel
theorem dX11_back_27 : decode cX11_back 27 = .ok (.aload_n 0, 1) := by decide +kernel
theorem dX11_back_28 : decode cX11_back 28 = .ok (.getfield 41, 3) := by decide +kernel
theorem dX11_back_31 : decode cX11_back 31 = .ok (.iload_n 1, 1) := by decide +kernel
theorem dX11_back_32 : decode cX11_back 32 = .ok (.aaload, 1) := by decide +kernel
theorem dX11_back_33 : decode cX11_back 33 = .ok (.aload_n 0, 1) := by decide +kernel
theorem dX11_back_34 : decode cX11_back 34 = .ok (.getfield 32, 3) := by decide +kernel
theorem dX11_back_37 : decode cX11_back 37 = .ok (.getfield 163, 3) := by decide +kernel
theorem dX11_back_40 : decode cX11_back 40 = .ok (.getfield 223, 3) := by decide +kernel
theorem dX11_back_43 : decode cX11_back 43 = .ok (.iload_n 1, 1) := by decide +kernel
theorem dX11_back_44 : decode cX11_back 44 = .ok (.iaload, 1) := by decide +kernel
theorem dX11_back_45 : decode cX11_back 45 = .ok (.aload_n 0, 1) := by decide +kernel
theorem dX11_back_46 : decode cX11_back 46 = .ok (.getfield 32, 3) := by decide +kernel
theorem dX11_back_49 : decode cX11_back 49 = .ok (.getfield 163, 3) := by decide +kernel
theorem dX11_back_52 : decode cX11_back 52 = .ok (.getfield 226, 3) := by decide +kernel
theorem dX11_back_55 : decode cX11_back 55 = .ok (.iload_n 1, 1) := by decide +kernel
theorem dX11_back_56 : decode cX11_back 56 = .ok (.iaload, 1) := by decide +kernel
theorem dX11_back_57 : decode cX11_back 57 = .ok (.invokevirtual 178, 3) := by decide +kernel
theorem dX11_back_60 : decode cX11_back 60 = .ok (.iinc 1 1, 3) := by decide +kernel
theorem dX11_back_63 : decode cX11_back 63 = .ok (.goto (-50), 3) := by decide +kernel
theorem dX11_back_66 : decode cX11_back 66 = .ok (.aload_n 0, 1) := by decide +kernel
theorem dX11_back_67 : decode cX11_back 67 = .ok (.getfield 32, 3) := by decide +kernel
theorem dX11_back_70 : decode cX11_back 70 = .ok (.getfield 77, 3) := by decide +kernel
theorem dX11_back_73 : decode cX11_back 73 = .ok (.ireturn, 1) := by decide +kernel
theorem dX11_about_0 : decode cX11_about 0 = .ok (.iload_n 1, 1) := by decide +kernel
theorem dX11_about_1 : decode cX11_about 1 = .ok (.tableswitch 213 0 13 #[71, 79, 87, 95, 106, 117, 128, 139, 150, 161, 172, 183, 194, 205], 71) := by decide +kernel
theorem dX11_about_72 : decode cX11_about 72 = .ok (.aload_n 0, 1) := by decide +kernel
theorem dX11_about_73 : decode cX11_about 73 = .ok (.getfield 32, 3) := by decide +kernel
theorem dX11_about_76 : decode cX11_about 76 = .ok (.getfield 77, 3) := by decide +kernel
theorem dX11_about_79 : decode cX11_about 79 = .ok (.ireturn, 1) := by decide +kernel
theorem dX11_about_80 : decode cX11_about 80 = .ok (.aload_n 0, 1) := by decide +kernel
theorem dX11_about_81 : decode cX11_about 81 = .ok (.getfield 21, 3) := by decide +kernel
theorem dX11_about_84 : decode cX11_about 84 = .ok (.getfield 420, 3) := by decide +kernel
theorem dX11_about_87 : decode cX11_about 87 = .ok (.ireturn, 1) := by decide +kernel
theorem dX11_about_88 : decode cX11_about 88 = .ok (.aload_n 0, 1) := by decide +kernel
theorem dX11_about_89 : decode cX11_about 89 = .ok (.getfield 21, 3) := by decide +kernel
theorem dX11_about_92 : decode cX11_about 92 = .ok (.getfield 423, 3) := by decide +kernel
theorem dX11_about_95 : decode cX11_about 95 = .ok (.ireturn, 1) := by decide +kernel
theorem dX11_about_96 : decode cX11_about 96 = .ok (.aload_n 0, 1) := by decide +kernel
theorem dX11_about_97 : decode cX11_about 97 = .ok (.getfield 32, 3) := by decide +kernel
theorem dX11_about_100 : decode cX11_about 100 = .ok (.getfield 112, 3) := by decide +kernel
theorem dX11_about_103 : decode cX11_about 103 = .ok (.getfield 116, 3) := by decide +kernel
theorem dX11_about_106 : decode cX11_about 106 = .ok (.ireturn, 1) := by decide +kernel
theorem dX11_about_107 : decode cX11_about 107 = .ok (.aload_n 0, 1) := by decide +kernel
theorem dX11_about_108 : decode cX11_about 108 = .ok (.getfield 32, 3) := by decide +kernel
theorem dX11_about_111 : decode cX11_about 111 = .ok (.getfield 112, 3) := by decide +kernel
theorem dX11_about_114 : decode cX11_about 114 = .ok (.getfield 149, 3) := by decide +kernel
theorem dX11_about_117 : decode cX11_about 117 = .ok (.ireturn, 1) := by decide +kernel
theorem dX11_about_118 : decode cX11_about 118 = .ok (.aload_n 0, 1) := by decide +kernel
theorem dX11_about_119 : decode cX11_about 119 = .ok (.getfield 32, 3) := by decide +kernel
theorem dX11_about_122 : decode cX11_about 122 = .ok (.getfield 163, 3) := by decide +kernel
theorem dX11_about_125 : decode cX11_about 125 = .ok (.getfield 167, 3) := by decide +kernel
theorem dX11_about_128 : decode cX11_about 128 = .ok (.ireturn, 1) := by decide +kernel
theorem dX11_about_129 : decode cX11_about 129 = .ok (.aload_n 0, 1) := by decide +kernel
theorem dX11_about_130 : decode cX11_about 130 = .ok (.getfield 32, 3) := by decide +kernel
theorem dX11_about_133 : decode cX11_about 133 = .ok (.getfield 163, 3) := by decide +kernel
theorem dX11_about_136 : decode cX11_about 136 = .ok (.getfield 255, 3) := by decide +kernel
theorem dX11_about_139 : decode cX11_about 139 = .ok (.ireturn, 1) := by decide +kernel
theorem dX11_about_140 : decode cX11_about 140 = .ok (.aload_n 0, 1) := by decide +kernel
theorem dX11_about_141 : decode cX11_about 141 = .ok (.getfield 32, 3) := by decide +kernel
theorem dX11_about_144 : decode cX11_about 144 = .ok (.getfield 277, 3) := by decide +kernel
theorem dX11_about_147 : decode cX11_about 147 = .ok (.getfield 281, 3) := by decide +kernel
theorem dX11_about_150 : decode cX11_about 150 = .ok (.ireturn, 1) := by decide +kernel
theorem dX11_about_151 : decode cX11_about 151 = .ok (.aload_n 0, 1) := by decide +kernel
theorem dX11_about_152 : decode cX11_about 152 = .ok (.getfield 32, 3) := by decide +kernel
theorem dX11_about_155 : decode cX11_about 155 = .ok (.getfield 277, 3) := by decide +kernel
theorem dX11_about_158 : decode cX11_about 158 = .ok (.getfield 294, 3) := by decide +kernel
theorem dX11_about_161 : decode cX11_about 161 = .ok (.ireturn, 1) := by decide +kernel
theorem dX11_about_162 : decode cX11_about 162 = .ok (.aload_n 0, 1) := by decide +kernel
theorem dX11_about_163 : decode cX11_about 163 = .ok (.getfield 32, 3) := by decide +kernel
theorem dX11_about_166 : decode cX11_about 166 = .ok (.getfield 277, 3) := by decide +kernel
theorem dX11_about_169 : decode cX11_about 169 = .ok (.invokevirtual 369, 3) := by decide +kernel
theorem dX11_about_172 : decode cX11_about 172 = .ok (.ireturn, 1) := by decide +kernel
theorem dX11_about_173 : decode cX11_about 173 = .ok (.aload_n 0, 1) := by decide +kernel
theorem dX11_about_174 : decode cX11_about 174 = .ok (.getfield 32, 3) := by decide +kernel
theorem dX11_about_177 : decode cX11_about 177 = .ok (.getfield 333, 3) := by decide +kernel
theorem dX11_about_180 : decode cX11_about 180 = .ok (.getfield 337, 3) := by decide +kernel
theorem dX11_about_183 : decode cX11_about 183 = .ok (.ireturn, 1) := by decide +kernel
theorem dX11_about_184 : decode cX11_about 184 = .ok (.aload_n 0, 1) := by decide +kernel
theorem dX11_about_185 : decode cX11_about 185 = .ok (.getfield 32, 3) := by decide +kernel
theorem dX11_about_188 : decode cX11_about 188 = .ok (.getfield 333, 3) := by decide +kernel
theorem dX11_about_191 : decode cX11_about 191 = .ok (.getfield 352, 3) := by decide +kernel
theorem dX11_about_194 : decode cX11_about 194 = .ok (.ireturn, 1) := by decide +kernel
theorem dX11_about_195 : decode cX11_about 195 = .ok (.aload_n 0, 1) := by decide +kernel
theorem dX11_about_196 : decode cX11_about 196 = .ok (.getfield 32, 3) := by decide +kernel
theorem dX11_about_199 : decode cX11_about 199 = .ok (.getfield 180, 3) := by decide +kernel
theorem dX11_about_202 : decode cX11_about 202 = .ok (.getfield 391, 3) := by decide +kernel
theorem dX11_about_205 : decode cX11_about 205 = .ok (.ireturn, 1) := by decide +kernel
theorem dX11_about_206 : decode cX11_about 206 = .ok (.aload_n 0, 1) := by decide +kernel
theorem dX11_about_207 : decode cX11_about 207 = .ok (.getfield 53, 3) := by decide +kernel
theorem dX11_about_210 : decode cX11_about 210 = .ok (.getfield 330, 3) := by decide +kernel
theorem dX11_about_213 : decode cX11_about 213 = .ok (.ireturn, 1) := by decide +kernel
theorem dX11_about_214 : decode cX11_about 214 = .ok (.iconst (-1), 1) := by decide +kernel
theorem dX11_about_215 : decode cX11_about 215 = .ok (.ireturn, 1) := by decide +kernel
theorem dX11_within_0 : decode cX11_within 0 = .ok (.iload_n 0, 1) := by decide +kernel
theorem dX11_within_1 : decode cX11_within 1 = .ok (.iload_n 1, 1) := by decide +kernel
theorem dX11_within_2 : decode cX11_within 2 = .ok (.if_icmp .lt 12, 3) := by decide +kernel
theorem dX11_within_5 : decode cX11_within 5 = .ok (.iload_n 0, 1) := by decide +kernel
theorem dX11_within_6 : decode cX11_within 6 = .ok (.iload_n 2, 1) := by decide +kernel
theorem dX11_within_7 : decode cX11_within 7 = .ok (.if_icmp .gt 7, 3) := by decide +kernel
theorem dX11_within_10 : decode cX11_within 10 = .ok (.iconst 1, 1) := by decide +kernel
theorem dX11_within_11 : decode cX11_within 11 = .ok (.goto 4, 3) := by decide +kernel
theorem dX11_within_14 : decode cX11_within 14 = .ok (.iconst 0, 1) := by decide +kernel
theorem dX11_within_15 : decode cX11_within 15 = .ok (.ireturn, 1) := by decide +kernel
theorem dX11_isWeek_0 : decode cX11_isWeek 0 = .ok (.iload_n 0, 1) := by decide +kernel
theorem dX11_isWeek_1 : decode cX11_isWeek 1 = .ok (.iconst 0, 1) := by decide +kernel
theorem dX11_isWeek_2 : decode cX11_isWeek 2 = .ok (.bipush 99, 2) := by decide +kernel
theorem dX11_isWeek_4 : decode cX11_isWeek 4 = .ok (.invokestatic 85, 3) := by decide +kernel
theorem dX11_isWeek_7 : decode cX11_isWeek 7 = .ok (.ireturn, 1) := by decide +kernel
theorem dX11_isKnown_0 : decode cX11_isKnown 0 = .ok (.iload_n 0, 1) := by decide +kernel
theorem dX11_isKnown_1 : decode cX11_isKnown 1 = .ok (.iconst 0, 1) := by decide +kernel
theorem dX11_isKnown_2 : decode cX11_isKnown 2 = .ok (.bipush 100, 2) := by decide +kernel
theorem dX11_isKnown_4 : decode cX11_isKnown 4 = .ok (.invokestatic 85, 3) := by decide +kernel
theorem dX11_isKnown_7 : decode cX11_isKnown 7 = .ok (.ireturn, 1) := by decide +kernel
theorem dX11_isWeekToCome_0 : decode cX11_isWeekToCome 0 = .ok (.iload_n 1, 1) := by decide +kernel
theorem dX11_isWeekToCome_1 : decode cX11_isWeekToCome 1 = .ok (.aload_n 0, 1) := by decide +kernel
theorem dX11_isWeekToCome_2 : decode cX11_isWeekToCome 2 = .ok (.getfield 32, 3) := by decide +kernel
theorem dX11_isWeekToCome_5 : decode cX11_isWeekToCome 5 = .ok (.getfield 77, 3) := by decide +kernel
theorem dX11_isWeekToCome_8 : decode cX11_isWeekToCome 8 = .ok (.bipush 99, 2) := by decide +kernel
theorem dX11_isWeekToCome_10 : decode cX11_isWeekToCome 10 = .ok (.invokestatic 85, 3) := by decide +kernel
theorem dX11_isWeekToCome_13 : decode cX11_isWeekToCome 13 = .ok (.ireturn, 1) := by decide +kernel
theorem dX11_isRoom_0 : decode cX11_isRoom 0 = .ok (.aload_n 0, 1) := by decide +kernel
theorem dX11_isRoom_1 : decode cX11_isRoom 1 = .ok (.getfield 21, 3) := by decide +kernel
theorem dX11_isRoom_4 : decode cX11_isRoom 4 = .ok (.iload_n 1, 1) := by decide +kernel
theorem dX11_isRoom_5 : decode cX11_isRoom 5 = .ok (.invokevirtual 81, 3) := by decide +kernel
theorem dX11_isRoom_8 : decode cX11_isRoom 8 = .ok (.ifCond .eq 23, 3) := by decide +kernel
theorem dX11_isRoom_11 : decode cX11_isRoom 11 = .ok (.aload_n 0, 1) := by decide +kernel
theorem dX11_isRoom_12 : decode cX11_isRoom 12 = .ok (.getfield 32, 3) := by decide +kernel
theorem dX11_isRoom_15 : decode cX11_isRoom 15 = .ok (.getfield 89, 3) := by decide +kernel
theorem dX11_isRoom_18 : decode cX11_isRoom 18 = .ok (.getfield 172, 3) := by decide +kernel
theorem dX11_isRoom_21 : decode cX11_isRoom 21 = .ok (.iload_n 1, 1) := by decide +kernel
theorem dX11_isRoom_22 : decode cX11_isRoom 22 = .ok (.iaload, 1) := by decide +kernel
theorem dX11_isRoom_23 : decode cX11_isRoom 23 = .ok (.iconst 3, 1) := by decide +kernel
theorem dX11_isRoom_24 : decode cX11_isRoom 24 = .ok (.if_icmp .ne 7, 3) := by decide +kernel
theorem dX11_isRoom_27 : decode cX11_isRoom 27 = .ok (.iconst 1, 1) := by decide +kernel
theorem dX11_isRoom_28 : decode cX11_isRoom 28 = .ok (.goto 4, 3) := by decide +kernel
theorem dX11_isRoom_31 : decode cX11_isRoom 31 = .ok (.iconst 0, 1) := by decide +kernel
theorem dX11_isRoom_32 : decode cX11_isRoom 32 = .ok (.ireturn, 1) := by decide +kernel
theorem dX11_hasState_0 : decode cX11_hasState 0 = .ok (.iload_n 1, 1) := by decide +kernel
theorem dX11_hasState_1 : decode cX11_hasState 1 = .ok (.iconst 0, 1) := by decide +kernel
theorem dX11_hasState_2 : decode cX11_hasState 2 = .ok (.aload_n 0, 1) := by decide +kernel
theorem dX11_hasState_3 : decode cX11_hasState 3 = .ok (.getfield 32, 3) := by decide +kernel
theorem dX11_hasState_6 : decode cX11_hasState 6 = .ok (.getfield 163, 3) := by decide +kernel
theorem dX11_hasState_9 : decode cX11_hasState 9 = .ok (.getfield 167, 3) := by decide +kernel
theorem dX11_hasState_12 : decode cX11_hasState 12 = .ok (.iconst 1, 1) := by decide +kernel
theorem dX11_hasState_13 : decode cX11_hasState 13 = .ok (.isub, 1) := by decide +kernel
theorem dX11_hasState_14 : decode cX11_hasState 14 = .ok (.invokestatic 85, 3) := by decide +kernel
theorem dX11_hasState_17 : decode cX11_hasState 17 = .ok (.ireturn, 1) := by decide +kernel
theorem dX11_has_0 : decode cX11_has 0 = .ok (.lload_n 0, 1) := by decide +kernel
theorem dX11_has_1 : decode cX11_has 1 = .ok (.iload_n 2, 1) := by decide +kernel
theorem dX11_has_2 : decode cX11_has 2 = .ok (.lushr, 1) := by decide +kernel
theorem dX11_has_3 : decode cX11_has 3 = .ok (.lconst 1, 1) := by decide +kernel
theorem dX11_has_4 : decode cX11_has 4 = .ok (.land, 1) := by decide +kernel
theorem dX11_has_5 : decode cX11_has 5 = .ok (.lconst 0, 1) := by decide +kernel
theorem dX11_has_6 : decode cX11_has 6 = .ok (.lcmp, 1) := by decide +kernel
theorem dX11_has_7 : decode cX11_has 7 = .ok (.ifCond .eq 7, 3) := by decide +kernel
theorem dX11_has_10 : decode cX11_has 10 = .ok (.iconst 1, 1) := by decide +kernel
theorem dX11_has_11 : decode cX11_has 11 = .ok (.goto 4, 3) := by decide +kernel
theorem dX11_has_14 : decode cX11_has 14 = .ok (.iconst 0, 1) := by decide +kernel
theorem dX11_has_15 : decode cX11_has 15 = .ok (.ireturn, 1) := by decide +kernel
theorem dX11_bit_0 : decode cX11_bit 0 = .ok (.lconst 1, 1) := by decide +kernel
theorem dX11_bit_1 : decode cX11_bit 1 = .ok (.iload_n 0, 1) := by decide +kernel
theorem dX11_bit_2 : decode cX11_bit 2 = .ok (.lshl, 1) := by decide +kernel
theorem dX11_bit_3 : decode cX11_bit 3 = .ok (.lreturn, 1) := by decide +kernel
theorem dX11_isIn_0 : decode cX11_isIn 0 = .ok (.iload_n 0, 1) := by decide +kernel
theorem dX11_isIn_1 : decode cX11_isIn 1 = .ok (.iload_n 1, 1) := by decide +kernel
theorem dX11_isIn_2 : decode cX11_isIn 2 = .ok (.iushr, 1) := by decide +kernel
theorem dX11_isIn_3 : decode cX11_isIn 3 = .ok (.iconst 1, 1) := by decide +kernel
theorem dX11_isIn_4 : decode cX11_isIn 4 = .ok (.iand, 1) := by decide +kernel
theorem dX11_isIn_5 : decode cX11_isIn 5 = .ok (.ifCond .eq 7, 3) := by decide +kernel
theorem dX11_isIn_8 : decode cX11_isIn 8 = .ok (.iconst 1, 1) := by decide +kernel
theorem dX11_isIn_9 : decode cX11_isIn 9 = .ok (.goto 4, 3) := by decide +kernel
theorem dX11_isIn_12 : decode cX11_isIn 12 = .ok (.iconst 0, 1) := by decide +kernel
theorem dX11_isIn_13 : decode cX11_isIn 13 = .ok (.ireturn, 1) := by decide +kernel
theorem dX11_lowest_0 : decode cX11_lowest 0 = .ok (.lload_n 0, 1) := by decide +kernel
theorem dX11_lowest_1 : decode cX11_lowest 1 = .ok (.lload_n 0, 1) := by decide +kernel
theorem dX11_lowest_2 : decode cX11_lowest 2 = .ok (.lneg, 1) := by decide +kernel
theorem dX11_lowest_3 : decode cX11_lowest 3 = .ok (.land, 1) := by decide +kernel
theorem dX11_lowest_4 : decode cX11_lowest 4 = .ok (.lconst 1, 1) := by decide +kernel
theorem dX11_lowest_5 : decode cX11_lowest 5 = .ok (.lsub, 1) := by decide +kernel
theorem dX11_lowest_6 : decode cX11_lowest 6 = .ok (.invokestatic 426, 3) := by decide +kernel
theorem dX11_lowest_9 : decode cX11_lowest 9 = .ok (.ireturn, 1) := by decide +kernel
theorem dX11_allOrSome_0 : decode cX11_allOrSome 0 = .ok (.iload_n 0, 1) := by decide +kernel
theorem dX11_allOrSome_1 : decode cX11_allOrSome 1 = .ok (.iload_n 1, 1) := by decide +kernel
theorem dX11_allOrSome_2 : decode cX11_allOrSome 2 = .ok (.if_icmp .ne 5, 3) := by decide +kernel
theorem dX11_allOrSome_5 : decode cX11_allOrSome 5 = .ok (.iconst 2, 1) := by decide +kernel
theorem dX11_allOrSome_6 : decode cX11_allOrSome 6 = .ok (.ireturn, 1) := by decide +kernel
theorem dX11_allOrSome_7 : decode cX11_allOrSome 7 = .ok (.iload_n 0, 1) := by decide +kernel
theorem dX11_allOrSome_8 : decode cX11_allOrSome 8 = .ok (.ifCond .le 7, 3) := by decide +kernel
theorem dX11_allOrSome_11 : decode cX11_allOrSome 11 = .ok (.iconst 1, 1) := by decide +kernel
theorem dX11_allOrSome_12 : decode cX11_allOrSome 12 = .ok (.goto 4, 3) := by decide +kernel
theorem dX11_allOrSome_15 : decode cX11_allOrSome 15 = .ok (.iconst 0, 1) := by decide +kernel
theorem dX11_allOrSome_16 : decode cX11_allOrSome 16 = .ok (.ireturn, 1) := by decide +kernel
theorem dX11_changedFrom_0 : decode cX11_changedFrom 0 = .ok (.iconst 0, 1) := by decide +kernel
theorem dX11_changedFrom_1 : decode cX11_changedFrom 1 = .ok (.istore_n 2, 1) := by decide +kernel
theorem dX11_changedFrom_2 : decode cX11_changedFrom 2 = .ok (.iload_n 2, 1) := by decide +kernel
theorem dX11_changedFrom_3 : decode cX11_changedFrom 3 = .ok (.bipush 8, 2) := by decide +kernel
theorem dX11_changedFrom_5 : decode cX11_changedFrom 5 = .ok (.if_icmp .ge 19, 3) := by decide +kernel
theorem dX11_changedFrom_8 : decode cX11_changedFrom 8 = .ok (.aload_n 0, 1) := by decide +kernel
theorem dX11_changedFrom_9 : decode cX11_changedFrom 9 = .ok (.getfield 41, 3) := by decide +kernel
theorem dX11_changedFrom_12 : decode cX11_changedFrom 12 = .ok (.iload_n 2, 1) := by decide +kernel
theorem dX11_changedFrom_13 : decode cX11_changedFrom 13 = .ok (.aaload, 1) := by decide +kernel
theorem dX11_changedFrom_14 : decode cX11_changedFrom 14 = .ok (.iload_n 1, 1) := by decide +kernel
theorem dX11_changedFrom_15 : decode cX11_changedFrom 15 = .ok (.invokevirtual 431, 3) := by decide +kernel
theorem dX11_changedFrom_18 : decode cX11_changedFrom 18 = .ok (.iinc 2 1, 3) := by decide +kernel
theorem dX11_changedFrom_21 : decode cX11_changedFrom 21 = .ok (.goto (-19), 3) := by decide +kernel
theorem dX11_changedFrom_24 : decode cX11_changedFrom 24 = .ok (.aload_n 0, 1) := by decide +kernel
theorem dX11_changedFrom_25 : decode cX11_changedFrom 25 = .ok (.getfield 32, 3) := by decide +kernel
theorem dX11_changedFrom_28 : decode cX11_changedFrom 28 = .ok (.getfield 180, 3) := by decide +kernel
theorem dX11_changedFrom_31 : decode cX11_changedFrom 31 = .ok (.invokevirtual 184, 3) := by decide +kernel
theorem dX11_changedFrom_34 : decode cX11_changedFrom 34 = .ok (.return_, 1) := by decide +kernel
theorem dX11_see_0 : decode cX11_see 0 = .ok (.bipush 99, 2) := by decide +kernel
theorem dX11_see_2 : decode cX11_see 2 = .ok (.iload_n 1, 1) := by decide +kernel
theorem dX11_see_3 : decode cX11_see 3 = .ok (.aload_n 0, 1) := by decide +kernel
theorem dX11_see_4 : decode cX11_see 4 = .ok (.getfield 32, 3) := by decide +kernel
theorem dX11_see_7 : decode cX11_see 7 = .ok (.getfield 77, 3) := by decide +kernel
theorem dX11_see_10 : decode cX11_see 10 = .ok (.invokestatic 15, 3) := by decide +kernel
theorem dX11_see_13 : decode cX11_see 13 = .ok (.invokestatic 9, 3) := by decide +kernel
theorem dX11_see_16 : decode cX11_see 16 = .ok (.istore_n 2, 1) := by decide +kernel
theorem dX11_see_17 : decode cX11_see 17 = .ok (.iconst 0, 1) := by decide +kernel
theorem dX11_see_18 : decode cX11_see 18 = .ok (.istore_n 3, 1) := by decide +kernel
theorem dX11_see_19 : decode cX11_see 19 = .ok (.iload_n 3, 1) := by decide +kernel
theorem dX11_see_20 : decode cX11_see 20 = .ok (.aload_n 0, 1) := by decide +kernel
theorem dX11_see_21 : decode cX11_see 21 = .ok (.getfield 32, 3) := by decide +kernel
theorem dX11_see_24 : decode cX11_see 24 = .ok (.getfield 163, 3) := by decide +kernel
theorem dX11_see_27 : decode cX11_see 27 = .ok (.getfield 167, 3) := by decide +kernel
theorem dX11_see_30 : decode cX11_see 30 = .ok (.if_icmp .ge 23, 3) := by decide +kernel
theorem dX11_see_33 : decode cX11_see 33 = .ok (.aload_n 0, 1) := by decide +kernel
theorem dX11_see_34 : decode cX11_see 34 = .ok (.getfield 41, 3) := by decide +kernel
theorem dX11_see_37 : decode cX11_see 37 = .ok (.iload_n 3, 1) := by decide +kernel
theorem dX11_see_38 : decode cX11_see 38 = .ok (.aaload, 1) := by decide +kernel
theorem dX11_see_39 : decode cX11_see 39 = .ok (.aload_n 0, 1) := by decide +kernel
theorem dX11_see_40 : decode cX11_see 40 = .ok (.getfield 32, 3) := by decide +kernel
theorem dX11_see_43 : decode cX11_see 43 = .ok (.iload_n 2, 1) := by decide +kernel
theorem dX11_see_44 : decode cX11_see 44 = .ok (.invokevirtual 202, 3) := by decide +kernel
theorem dX11_see_47 : decode cX11_see 47 = .ok (.iinc 3 1, 3) := by decide +kernel
theorem dX11_see_50 : decode cX11_see 50 = .ok (.goto (-31), 3) := by decide +kernel
theorem dX11_see_53 : decode cX11_see 53 = .ok (.return_, 1) := by decide +kernel
theorem dX11_lostBy_0 : decode cX11_lostBy 0 = .ok (.aload_n 0, 1) := by decide +kernel
theorem dX11_lostBy_1 : decode cX11_lostBy 1 = .ok (.getfield 212, 3) := by decide +kernel
theorem dX11_lostBy_4 : decode cX11_lostBy 4 = .ok (.iload_n 1, 1) := by decide +kernel
theorem dX11_lostBy_5 : decode cX11_lostBy 5 = .ok (.laload, 1) := by decide +kernel
theorem dX11_lostBy_6 : decode cX11_lostBy 6 = .ok (.aload_n 0, 1) := by decide +kernel
theorem dX11_lostBy_7 : decode cX11_lostBy 7 = .ok (.getfield 216, 3) := by decide +kernel
theorem dX11_lostBy_10 : decode cX11_lostBy 10 = .ok (.iload_n 1, 1) := by decide +kernel
theorem dX11_lostBy_11 : decode cX11_lostBy 11 = .ok (.laload, 1) := by decide +kernel
theorem dX11_lostBy_12 : decode cX11_lostBy 12 = .ok (.lor, 1) := by decide +kernel
theorem dX11_lostBy_13 : decode cX11_lostBy 13 = .ok (.invokestatic 426, 3) := by decide +kernel
theorem dX11_lostBy_16 : decode cX11_lostBy 16 = .ok (.ireturn, 1) := by decide +kernel
theorem dX11_cutsInTime_0 : decode cX11_cutsInTime 0 = .ok (.aload_n 0, 1) := by decide +kernel
theorem dX11_cutsInTime_1 : decode cX11_cutsInTime 1 = .ok (.getfield 32, 3) := by decide +kernel
theorem dX11_cutsInTime_4 : decode cX11_cutsInTime 4 = .ok (.getfield 112, 3) := by decide +kernel
theorem dX11_cutsInTime_7 : decode cX11_cutsInTime 7 = .ok (.astore_n 3, 1) := by decide +kernel
theorem dX11_cutsInTime_8 : decode cX11_cutsInTime 8 = .ok (.iconst 0, 1) := by decide +kernel
theorem dX11_cutsInTime_9 : decode cX11_cutsInTime 9 = .ok (.istore 4, 2) := by decide +kernel
theorem dX11_cutsInTime_11 : decode cX11_cutsInTime 11 = .ok (.iload 4, 2) := by decide +kernel
theorem dX11_cutsInTime_13 : decode cX11_cutsInTime 13 = .ok (.aload_n 3, 1) := by decide +kernel
theorem dX11_cutsInTime_14 : decode cX11_cutsInTime 14 = .ok (.getfield 434, 3) := by decide +kernel
theorem dX11_cutsInTime_17 : decode cX11_cutsInTime 17 = .ok (.iload_n 1, 1) := by decide +kernel
theorem dX11_cutsInTime_18 : decode cX11_cutsInTime 18 = .ok (.iaload, 1) := by decide +kernel
theorem dX11_cutsInTime_19 : decode cX11_cutsInTime 19 = .ok (.if_icmp .ge 57, 3) := by decide +kernel
theorem dX11_cutsInTime_22 : decode cX11_cutsInTime 22 = .ok (.aload_n 3, 1) := by decide +kernel
theorem dX11_cutsInTime_23 : decode cX11_cutsInTime 23 = .ok (.iload_n 1, 1) := by decide +kernel
theorem dX11_cutsInTime_24 : decode cX11_cutsInTime 24 = .ok (.iload 4, 2) := by decide +kernel
theorem dX11_cutsInTime_26 : decode cX11_cutsInTime 26 = .ok (.invokevirtual 437, 3) := by decide +kernel
theorem dX11_cutsInTime_29 : decode cX11_cutsInTime 29 = .ok (.istore 5, 2) := by decide +kernel
theorem dX11_cutsInTime_31 : decode cX11_cutsInTime 31 = .ok (.iload 5, 2) := by decide +kernel
theorem dX11_cutsInTime_33 : decode cX11_cutsInTime 33 = .ok (.bipush 100, 2) := by decide +kernel
theorem dX11_cutsInTime_35 : decode cX11_cutsInTime 35 = .ok (.if_icmp .ge 35, 3) := by decide +kernel
theorem dX11_cutsInTime_38 : decode cX11_cutsInTime 38 = .ok (.aload_n 2, 1) := by decide +kernel
theorem dX11_cutsInTime_39 : decode cX11_cutsInTime 39 = .ok (.aload_n 0, 1) := by decide +kernel
theorem dX11_cutsInTime_40 : decode cX11_cutsInTime 40 = .ok (.getfield 32, 3) := by decide +kernel
theorem dX11_cutsInTime_43 : decode cX11_cutsInTime 43 = .ok (.iload 5, 2) := by decide +kernel
theorem dX11_cutsInTime_45 : decode cX11_cutsInTime 45 = .ok (.invokevirtual 202, 3) := by decide +kernel
theorem dX11_cutsInTime_48 : decode cX11_cutsInTime 48 = .ok (.aload_n 2, 1) := by decide +kernel
theorem dX11_cutsInTime_49 : decode cX11_cutsInTime 49 = .ok (.getfield 440, 3) := by decide +kernel
theorem dX11_cutsInTime_52 : decode cX11_cutsInTime 52 = .ok (.iload 5, 2) := by decide +kernel
theorem dX11_cutsInTime_54 : decode cX11_cutsInTime 54 = .ok (.laload, 1) := by decide +kernel
theorem dX11_cutsInTime_55 : decode cX11_cutsInTime 55 = .ok (.aload_n 3, 1) := by decide +kernel
theorem dX11_cutsInTime_56 : decode cX11_cutsInTime 56 = .ok (.iload_n 1, 1) := by decide +kernel
theorem dX11_cutsInTime_57 : decode cX11_cutsInTime 57 = .ok (.iload 4, 2) := by decide +kernel
theorem dX11_cutsInTime_59 : decode cX11_cutsInTime 59 = .ok (.invokevirtual 443, 3) := by decide +kernel
theorem dX11_cutsInTime_62 : decode cX11_cutsInTime 62 = .ok (.invokestatic 209, 3) := by decide +kernel
theorem dX11_cutsInTime_65 : decode cX11_cutsInTime 65 = .ok (.ifCond .eq 5, 3) := by decide +kernel
theorem dX11_cutsInTime_68 : decode cX11_cutsInTime 68 = .ok (.iconst 0, 1) := by decide +kernel
theorem dX11_cutsInTime_69 : decode cX11_cutsInTime 69 = .ok (.ireturn, 1) := by decide +kernel
theorem dX11_cutsInTime_70 : decode cX11_cutsInTime 70 = .ok (.iinc 4 1, 3) := by decide +kernel
theorem dX11_cutsInTime_73 : decode cX11_cutsInTime 73 = .ok (.goto (-62), 3) := by decide +kernel
theorem dX11_cutsInTime_76 : decode cX11_cutsInTime 76 = .ok (.iconst 1, 1) := by decide +kernel
theorem dX11_cutsInTime_77 : decode cX11_cutsInTime 77 = .ok (.ireturn, 1) := by decide +kernel
theorem dX11_isLet_0 : decode cX11_isLet 0 = .ok (.aload_n 0, 1) := by decide +kernel
theorem dX11_isLet_1 : decode cX11_isLet 1 = .ok (.getfield 32, 3) := by decide +kernel
theorem dX11_isLet_4 : decode cX11_isLet 4 = .ok (.getfield 163, 3) := by decide +kernel
theorem dX11_isLet_7 : decode cX11_isLet 7 = .ok (.astore_n 3, 1) := by decide +kernel
theorem dX11_isLet_8 : decode cX11_isLet 8 = .ok (.aload_n 0, 1) := by decide +kernel
theorem dX11_isLet_9 : decode cX11_isLet 9 = .ok (.getfield 41, 3) := by decide +kernel
theorem dX11_isLet_12 : decode cX11_isLet 12 = .ok (.iload_n 1, 1) := by decide +kernel
theorem dX11_isLet_13 : decode cX11_isLet 13 = .ok (.aaload, 1) := by decide +kernel
theorem dX11_isLet_14 : decode cX11_isLet 14 = .ok (.astore 4, 2) := by decide +kernel
theorem dX11_isLet_16 : decode cX11_isLet 16 = .ok (.iconst 0, 1) := by decide +kernel
theorem dX11_isLet_17 : decode cX11_isLet 17 = .ok (.istore 5, 2) := by decide +kernel
theorem dX11_isLet_19 : decode cX11_isLet 19 = .ok (.iload 5, 2) := by decide +kernel
theorem dX11_isLet_21 : decode cX11_isLet 21 = .ok (.aload_n 3, 1) := by decide +kernel
theorem dX11_isLet_22 : decode cX11_isLet 22 = .ok (.getfield 255, 3) := by decide +kernel
theorem dX11_isLet_25 : decode cX11_isLet 25 = .ok (.if_icmp .ge 67, 3) := by decide +kernel
theorem dX11_isLet_28 : decode cX11_isLet 28 = .ok (.aload_n 3, 1) := by decide +kernel
theorem dX11_isLet_29 : decode cX11_isLet 29 = .ok (.getfield 446, 3) := by decide +kernel
theorem dX11_isLet_32 : decode cX11_isLet 32 = .ok (.iload 5, 2) := by decide +kernel
theorem dX11_isLet_34 : decode cX11_isLet 34 = .ok (.iaload, 1) := by decide +kernel
theorem dX11_isLet_35 : decode cX11_isLet 35 = .ok (.iload_n 2, 1) := by decide +kernel
theorem dX11_isLet_36 : decode cX11_isLet 36 = .ok (.if_icmp .gt 50, 3) := by decide +kernel
theorem dX11_isLet_39 : decode cX11_isLet 39 = .ok (.aload 4, 2) := by decide +kernel
theorem dX11_isLet_41 : decode cX11_isLet 41 = .ok (.getfield 212, 3) := by decide +kernel
theorem dX11_isLet_44 : decode cX11_isLet 44 = .ok (.aload_n 3, 1) := by decide +kernel
theorem dX11_isLet_45 : decode cX11_isLet 45 = .ok (.getfield 449, 3) := by decide +kernel
theorem dX11_isLet_48 : decode cX11_isLet 48 = .ok (.iload 5, 2) := by decide +kernel
theorem dX11_isLet_50 : decode cX11_isLet 50 = .ok (.iaload, 1) := by decide +kernel
theorem dX11_isLet_51 : decode cX11_isLet 51 = .ok (.laload, 1) := by decide +kernel
theorem dX11_isLet_52 : decode cX11_isLet 52 = .ok (.aload_n 3, 1) := by decide +kernel
theorem dX11_isLet_53 : decode cX11_isLet 53 = .ok (.getfield 452, 3) := by decide +kernel
theorem dX11_isLet_56 : decode cX11_isLet 56 = .ok (.iload 5, 2) := by decide +kernel
theorem dX11_isLet_58 : decode cX11_isLet 58 = .ok (.iaload, 1) := by decide +kernel
theorem dX11_isLet_59 : decode cX11_isLet 59 = .ok (.invokestatic 209, 3) := by decide +kernel
theorem dX11_isLet_62 : decode cX11_isLet 62 = .ok (.istore 6, 2) := by decide +kernel
theorem dX11_isLet_64 : decode cX11_isLet 64 = .ok (.iload 6, 2) := by decide +kernel
theorem dX11_isLet_66 : decode cX11_isLet 66 = .ok (.aload_n 3, 1) := by decide +kernel
theorem dX11_isLet_67 : decode cX11_isLet 67 = .ok (.getfield 455, 3) := by decide +kernel
theorem dX11_isLet_70 : decode cX11_isLet 70 = .ok (.iload 5, 2) := by decide +kernel
theorem dX11_isLet_72 : decode cX11_isLet 72 = .ok (.iaload, 1) := by decide +kernel
theorem dX11_isLet_73 : decode cX11_isLet 73 = .ok (.ifCond .eq 7, 3) := by decide +kernel
theorem dX11_isLet_76 : decode cX11_isLet 76 = .ok (.iconst 1, 1) := by decide +kernel
theorem dX11_isLet_77 : decode cX11_isLet 77 = .ok (.goto 4, 3) := by decide +kernel
theorem dX11_isLet_80 : decode cX11_isLet 80 = .ok (.iconst 0, 1) := by decide +kernel
theorem dX11_isLet_81 : decode cX11_isLet 81 = .ok (.if_icmp .eq 5, 3) := by decide +kernel
theorem dX11_isLet_84 : decode cX11_isLet 84 = .ok (.iconst 0, 1) := by decide +kernel
theorem dX11_isLet_85 : decode cX11_isLet 85 = .ok (.ireturn, 1) := by decide +kernel
theorem dX11_isLet_86 : decode cX11_isLet 86 = .ok (.iinc 5 1, 3) := by decide +kernel
theorem dX11_isLet_89 : decode cX11_isLet 89 = .ok (.goto (-70), 3) := by decide +kernel
theorem dX11_isLet_92 : decode cX11_isLet 92 = .ok (.iconst 1, 1) := by decide +kernel
theorem dX11_isLet_93 : decode cX11_isLet 93 = .ok (.ireturn, 1) := by decide +kernel
theorem dX11_letAsKnown_0 : decode cX11_letAsKnown 0 = .ok (.iconst 0, 1) := by decide +kernel
theorem dX11_letAsKnown_1 : decode cX11_letAsKnown 1 = .ok (.istore_n 2, 1) := by decide +kernel
theorem dX11_letAsKnown_2 : decode cX11_letAsKnown 2 = .ok (.iconst 0, 1) := by decide +kernel
theorem dX11_letAsKnown_3 : decode cX11_letAsKnown 3 = .ok (.istore_n 3, 1) := by decide +kernel
theorem dX11_letAsKnown_4 : decode cX11_letAsKnown 4 = .ok (.iload_n 3, 1) := by decide +kernel
theorem dX11_letAsKnown_5 : decode cX11_letAsKnown 5 = .ok (.aload_n 0, 1) := by decide +kernel
theorem dX11_letAsKnown_6 : decode cX11_letAsKnown 6 = .ok (.getfield 32, 3) := by decide +kernel
theorem dX11_letAsKnown_9 : decode cX11_letAsKnown 9 = .ok (.getfield 163, 3) := by decide +kernel
theorem dX11_letAsKnown_12 : decode cX11_letAsKnown 12 = .ok (.getfield 167, 3) := by decide +kernel
theorem dX11_letAsKnown_15 : decode cX11_letAsKnown 15 = .ok (.if_icmp .ge 24, 3) := by decide +kernel
theorem dX11_letAsKnown_18 : decode cX11_letAsKnown 18 = .ok (.aload_n 0, 1) := by decide +kernel
theorem dX11_letAsKnown_19 : decode cX11_letAsKnown 19 = .ok (.iload_n 3, 1) := by decide +kernel
theorem dX11_letAsKnown_20 : decode cX11_letAsKnown 20 = .ok (.iload_n 1, 1) := by decide +kernel
theorem dX11_letAsKnown_21 : decode cX11_letAsKnown 21 = .ok (.invokevirtual 265, 3) := by decide +kernel
theorem dX11_letAsKnown_24 : decode cX11_letAsKnown 24 = .ok (.ifCond .eq 9, 3) := by decide +kernel
theorem dX11_letAsKnown_27 : decode cX11_letAsKnown 27 = .ok (.iload_n 2, 1) := by decide +kernel
theorem dX11_letAsKnown_28 : decode cX11_letAsKnown 28 = .ok (.iconst 1, 1) := by decide +kernel
theorem dX11_letAsKnown_29 : decode cX11_letAsKnown 29 = .ok (.iload_n 3, 1) := by decide +kernel
theorem dX11_letAsKnown_30 : decode cX11_letAsKnown 30 = .ok (.ishl, 1) := by decide +kernel
theorem dX11_letAsKnown_31 : decode cX11_letAsKnown 31 = .ok (.ior, 1) := by decide +kernel
theorem dX11_letAsKnown_32 : decode cX11_letAsKnown 32 = .ok (.istore_n 2, 1) := by decide +kernel
theorem dX11_letAsKnown_33 : decode cX11_letAsKnown 33 = .ok (.iinc 3 1, 3) := by decide +kernel
theorem dX11_letAsKnown_36 : decode cX11_letAsKnown 36 = .ok (.goto (-32), 3) := by decide +kernel
theorem dX11_letAsKnown_39 : decode cX11_letAsKnown 39 = .ok (.iload_n 2, 1) := by decide +kernel
theorem dX11_letAsKnown_40 : decode cX11_letAsKnown 40 = .ok (.ireturn, 1) := by decide +kernel
theorem dX11_letNow_0 : decode cX11_letNow 0 = .ok (.aload_n 0, 1) := by decide +kernel
theorem dX11_letNow_1 : decode cX11_letNow 1 = .ok (.aload_n 0, 1) := by decide +kernel
theorem dX11_letNow_2 : decode cX11_letNow 2 = .ok (.getfield 32, 3) := by decide +kernel
theorem dX11_letNow_5 : decode cX11_letNow 5 = .ok (.getfield 77, 3) := by decide +kernel
theorem dX11_letNow_8 : decode cX11_letNow 8 = .ok (.invokevirtual 268, 3) := by decide +kernel
theorem dX11_letNow_11 : decode cX11_letNow 11 = .ok (.ireturn, 1) := by decide +kernel
theorem dX11_howManyBurn_0 : decode cX11_howManyBurn 0 = .ok (.iconst 0, 1) := by decide +kernel
theorem dX11_howManyBurn_1 : decode cX11_howManyBurn 1 = .ok (.istore 4, 2) := by decide +kernel
theorem dX11_howManyBurn_3 : decode cX11_howManyBurn 3 = .ok (.iconst 0, 1) := by decide +kernel
theorem dX11_howManyBurn_4 : decode cX11_howManyBurn 4 = .ok (.istore 5, 2) := by decide +kernel
theorem dX11_howManyBurn_6 : decode cX11_howManyBurn 6 = .ok (.iload 5, 2) := by decide +kernel
theorem dX11_howManyBurn_8 : decode cX11_howManyBurn 8 = .ok (.aload_n 0, 1) := by decide +kernel
theorem dX11_howManyBurn_9 : decode cX11_howManyBurn 9 = .ok (.getfield 32, 3) := by decide +kernel
theorem dX11_howManyBurn_12 : decode cX11_howManyBurn 12 = .ok (.getfield 163, 3) := by decide +kernel
theorem dX11_howManyBurn_15 : decode cX11_howManyBurn 15 = .ok (.getfield 167, 3) := by decide +kernel
theorem dX11_howManyBurn_18 : decode cX11_howManyBurn 18 = .ok (.if_icmp .ge 40, 3) := by decide +kernel
theorem dX11_howManyBurn_21 : decode cX11_howManyBurn 21 = .ok (.iload_n 1, 1) := by decide +kernel
theorem dX11_howManyBurn_22 : decode cX11_howManyBurn 22 = .ok (.iload 5, 2) := by decide +kernel
theorem dX11_howManyBurn_24 : decode cX11_howManyBurn 24 = .ok (.invokestatic 243, 3) := by decide +kernel
theorem dX11_howManyBurn_27 : decode cX11_howManyBurn 27 = .ok (.ifCond .eq 25, 3) := by decide +kernel
theorem dX11_howManyBurn_30 : decode cX11_howManyBurn 30 = .ok (.aload_n 0, 1) := by decide +kernel
theorem dX11_howManyBurn_31 : decode cX11_howManyBurn 31 = .ok (.getfield 41, 3) := by decide +kernel
theorem dX11_howManyBurn_34 : decode cX11_howManyBurn 34 = .ok (.iload 5, 2) := by decide +kernel
theorem dX11_howManyBurn_36 : decode cX11_howManyBurn 36 = .ok (.aaload, 1) := by decide +kernel
theorem dX11_howManyBurn_37 : decode cX11_howManyBurn 37 = .ok (.getfield 212, 3) := by decide +kernel
theorem dX11_howManyBurn_40 : decode cX11_howManyBurn 40 = .ok (.iload_n 3, 1) := by decide +kernel
theorem dX11_howManyBurn_41 : decode cX11_howManyBurn 41 = .ok (.laload, 1) := by decide +kernel
theorem dX11_howManyBurn_42 : decode cX11_howManyBurn 42 = .ok (.iload_n 2, 1) := by decide +kernel
theorem dX11_howManyBurn_43 : decode cX11_howManyBurn 43 = .ok (.invokestatic 209, 3) := by decide +kernel
theorem dX11_howManyBurn_46 : decode cX11_howManyBurn 46 = .ok (.ifCond .eq 6, 3) := by decide +kernel
theorem dX11_howManyBurn_49 : decode cX11_howManyBurn 49 = .ok (.iinc 4 1, 3) := by decide +kernel
theorem dX11_howManyBurn_52 : decode cX11_howManyBurn 52 = .ok (.iinc 5 1, 3) := by decide +kernel
theorem dX11_howManyBurn_55 : decode cX11_howManyBurn 55 = .ok (.goto (-49), 3) := by decide +kernel
theorem dX11_howManyBurn_58 : decode cX11_howManyBurn 58 = .ok (.iload 4, 2) := by decide +kernel
theorem dX11_howManyBurn_60 : decode cX11_howManyBurn 60 = .ok (.ireturn, 1) := by decide +kernel
theorem dX11_gasOf_0 : decode cX11_gasOf 0 = .ok (.iconst (-1), 1) := by decide +kernel
theorem dX11_gasOf_1 : decode cX11_gasOf 1 = .ok (.istore 5, 2) := by decide +kernel
theorem dX11_gasOf_3 : decode cX11_gasOf 3 = .ok (.iconst 0, 1) := by decide +kernel
theorem dX11_gasOf_4 : decode cX11_gasOf 4 = .ok (.istore 6, 2) := by decide +kernel
theorem dX11_gasOf_6 : decode cX11_gasOf 6 = .ok (.iload 6, 2) := by decide +kernel
theorem dX11_gasOf_8 : decode cX11_gasOf 8 = .ok (.aload_n 0, 1) := by decide +kernel
theorem dX11_gasOf_9 : decode cX11_gasOf 9 = .ok (.getfield 32, 3) := by decide +kernel
theorem dX11_gasOf_12 : decode cX11_gasOf 12 = .ok (.getfield 163, 3) := by decide +kernel
theorem dX11_gasOf_15 : decode cX11_gasOf 15 = .ok (.getfield 167, 3) := by decide +kernel
theorem dX11_gasOf_18 : decode cX11_gasOf 18 = .ok (.if_icmp .ge 93, 3) := by decide +kernel
theorem dX11_gasOf_21 : decode cX11_gasOf 21 = .ok (.iload 4, 2) := by decide +kernel
theorem dX11_gasOf_23 : decode cX11_gasOf 23 = .ok (.iload 6, 2) := by decide +kernel
theorem dX11_gasOf_25 : decode cX11_gasOf 25 = .ok (.invokestatic 243, 3) := by decide +kernel
theorem dX11_gasOf_28 : decode cX11_gasOf 28 = .ok (.ifCond .eq 77, 3) := by decide +kernel
theorem dX11_gasOf_31 : decode cX11_gasOf 31 = .ok (.aload_n 0, 1) := by decide +kernel
theorem dX11_gasOf_32 : decode cX11_gasOf 32 = .ok (.getfield 32, 3) := by decide +kernel
theorem dX11_gasOf_35 : decode cX11_gasOf 35 = .ok (.getfield 277, 3) := by decide +kernel
theorem dX11_gasOf_38 : decode cX11_gasOf 38 = .ok (.getfield 458, 3) := by decide +kernel
theorem dX11_gasOf_41 : decode cX11_gasOf 41 = .ok (.iload_n 1, 1) := by decide +kernel
theorem dX11_gasOf_42 : decode cX11_gasOf 42 = .ok (.iaload, 1) := by decide +kernel
theorem dX11_gasOf_43 : decode cX11_gasOf 43 = .ok (.aload_n 0, 1) := by decide +kernel
theorem dX11_gasOf_44 : decode cX11_gasOf 44 = .ok (.aload_n 0, 1) := by decide +kernel
theorem dX11_gasOf_45 : decode cX11_gasOf 45 = .ok (.getfield 41, 3) := by decide +kernel
theorem dX11_gasOf_48 : decode cX11_gasOf 48 = .ok (.iload 6, 2) := by decide +kernel
theorem dX11_gasOf_50 : decode cX11_gasOf 50 = .ok (.aaload, 1) := by decide +kernel
theorem dX11_gasOf_51 : decode cX11_gasOf 51 = .ok (.getfield 212, 3) := by decide +kernel
theorem dX11_gasOf_54 : decode cX11_gasOf 54 = .ok (.iload_n 2, 1) := by decide +kernel
theorem dX11_gasOf_55 : decode cX11_gasOf 55 = .ok (.laload, 1) := by decide +kernel
theorem dX11_gasOf_56 : decode cX11_gasOf 56 = .ok (.aload_n 0, 1) := by decide +kernel
theorem dX11_gasOf_57 : decode cX11_gasOf 57 = .ok (.getfield 32, 3) := by decide +kernel
theorem dX11_gasOf_60 : decode cX11_gasOf 60 = .ok (.getfield 277, 3) := by decide +kernel
theorem dX11_gasOf_63 : decode cX11_gasOf 63 = .ok (.getfield 461, 3) := by decide +kernel
theorem dX11_gasOf_66 : decode cX11_gasOf 66 = .ok (.iload_n 1, 1) := by decide +kernel
theorem dX11_gasOf_67 : decode cX11_gasOf 67 = .ok (.iaload, 1) := by decide +kernel
theorem dX11_gasOf_68 : decode cX11_gasOf 68 = .ok (.invokevirtual 464, 3) := by decide +kernel
theorem dX11_gasOf_71 : decode cX11_gasOf 71 = .ok (.imul, 1) := by decide +kernel
theorem dX11_gasOf_72 : decode cX11_gasOf 72 = .ok (.istore 7, 2) := by decide +kernel
theorem dX11_gasOf_74 : decode cX11_gasOf 74 = .ok (.iload 5, 2) := by decide +kernel
theorem dX11_gasOf_76 : decode cX11_gasOf 76 = .ok (.iconst (-1), 1) := by decide +kernel
theorem dX11_gasOf_77 : decode cX11_gasOf 77 = .ok (.if_icmp .eq 24, 3) := by decide +kernel
theorem dX11_gasOf_80 : decode cX11_gasOf 80 = .ok (.iload_n 3, 1) := by decide +kernel
theorem dX11_gasOf_81 : decode cX11_gasOf 81 = .ok (.ifCond .eq 13, 3) := by decide +kernel
theorem dX11_gasOf_84 : decode cX11_gasOf 84 = .ok (.iload 7, 2) := by decide +kernel
theorem dX11_gasOf_86 : decode cX11_gasOf 86 = .ok (.iload 5, 2) := by decide +kernel
theorem dX11_gasOf_88 : decode cX11_gasOf 88 = .ok (.if_icmp .le 17, 3) := by decide +kernel
theorem dX11_gasOf_91 : decode cX11_gasOf 91 = .ok (.goto 10, 3) := by decide +kernel
theorem dX11_gasOf_94 : decode cX11_gasOf 94 = .ok (.iload 7, 2) := by decide +kernel
theorem dX11_gasOf_96 : decode cX11_gasOf 96 = .ok (.iload 5, 2) := by decide +kernel
theorem dX11_gasOf_98 : decode cX11_gasOf 98 = .ok (.if_icmp .ge 7, 3) := by decide +kernel
theorem dX11_gasOf_101 : decode cX11_gasOf 101 = .ok (.iload 7, 2) := by decide +kernel
theorem dX11_gasOf_103 : decode cX11_gasOf 103 = .ok (.istore 5, 2) := by decide +kernel
theorem dX11_gasOf_105 : decode cX11_gasOf 105 = .ok (.iinc 6 1, 3) := by decide +kernel
theorem dX11_gasOf_108 : decode cX11_gasOf 108 = .ok (.goto (-102), 3) := by decide +kernel
theorem dX11_gasOf_111 : decode cX11_gasOf 111 = .ok (.iconst 0, 1) := by decide +kernel
theorem dX11_gasOf_112 : decode cX11_gasOf 112 = .ok (.iload 5, 2) := by decide +kernel
theorem dX11_gasOf_114 : decode cX11_gasOf 114 = .ok (.invokestatic 15, 3) := by decide +kernel
theorem dX11_gasOf_117 : decode cX11_gasOf 117 = .ok (.ireturn, 1) := by decide +kernel
theorem dX11_nearness_0 : decode cX11_nearness 0 = .ok (.iload_n 3, 1) := by decide +kernel
theorem dX11_nearness_1 : decode cX11_nearness 1 = .ok (.invokestatic 468, 3) := by decide +kernel
theorem dX11_nearness_4 : decode cX11_nearness 4 = .ok (.lstore 4, 2) := by decide +kernel
theorem dX11_nearness_6 : decode cX11_nearness 6 = .ok (.iconst 0, 1) := by decide +kernel
theorem dX11_nearness_7 : decode cX11_nearness 7 = .ok (.istore 6, 2) := by decide +kernel
theorem dX11_nearness_9 : decode cX11_nearness 9 = .ok (.iconst 0, 1) := by decide +kernel
theorem dX11_nearness_10 : decode cX11_nearness 10 = .ok (.istore 7, 2) := by decide +kernel
theorem dX11_nearness_12 : decode cX11_nearness 12 = .ok (.iload 7, 2) := by decide +kernel
theorem dX11_nearness_14 : decode cX11_nearness 14 = .ok (.iconst 3, 1) := by decide +kernel
theorem dX11_nearness_15 : decode cX11_nearness 15 = .ok (.if_icmp .gt 35, 3) := by decide +kernel
theorem dX11_nearness_18 : decode cX11_nearness 18 = .ok (.iload 6, 2) := by decide +kernel
theorem dX11_nearness_20 : decode cX11_nearness 20 = .ok (.lload_n 1, 1) := by decide +kernel
theorem dX11_nearness_21 : decode cX11_nearness 21 = .ok (.lload 4, 2) := by decide +kernel
theorem dX11_nearness_23 : decode cX11_nearness 23 = .ok (.land, 1) := by decide +kernel
theorem dX11_nearness_24 : decode cX11_nearness 24 = .ok (.invokestatic 426, 3) := by decide +kernel
theorem dX11_nearness_27 : decode cX11_nearness 27 = .ok (.iadd, 1) := by decide +kernel
theorem dX11_nearness_28 : decode cX11_nearness 28 = .ok (.istore 6, 2) := by decide +kernel
theorem dX11_nearness_30 : decode cX11_nearness 30 = .ok (.lload 4, 2) := by decide +kernel
theorem dX11_nearness_32 : decode cX11_nearness 32 = .ok (.aload_n 0, 1) := by decide +kernel
theorem dX11_nearness_33 : decode cX11_nearness 33 = .ok (.getfield 21, 3) := by decide +kernel
theorem dX11_nearness_36 : decode cX11_nearness 36 = .ok (.lload 4, 2) := by decide +kernel
theorem dX11_nearness_38 : decode cX11_nearness 38 = .ok (.invokevirtual 472, 3) := by decide +kernel
theorem dX11_nearness_41 : decode cX11_nearness 41 = .ok (.lor, 1) := by decide +kernel
theorem dX11_nearness_42 : decode cX11_nearness 42 = .ok (.lstore 4, 2) := by decide +kernel
theorem dX11_nearness_44 : decode cX11_nearness 44 = .ok (.iinc 7 1, 3) := by decide +kernel
theorem dX11_nearness_47 : decode cX11_nearness 47 = .ok (.goto (-35), 3) := by decide +kernel
theorem dX11_nearness_50 : decode cX11_nearness 50 = .ok (.iload 6, 2) := by decide +kernel
theorem dX11_nearness_52 : decode cX11_nearness 52 = .ok (.ireturn, 1) := by decide +kernel
theorem dX11_actFor_0 : decode cX11_actFor 0 = .ok (.aload_n 0, 1) := by decide +kernel
theorem dX11_actFor_1 : decode cX11_actFor 1 = .ok (.getfield 32, 3) := by decide +kernel
theorem dX11_actFor_4 : decode cX11_actFor 4 = .ok (.getfield 333, 3) := by decide +kernel
theorem dX11_actFor_7 : decode cX11_actFor 7 = .ok (.getfield 352, 3) := by decide +kernel
theorem dX11_actFor_10 : decode cX11_actFor 10 = .ok (.iconst 1, 1) := by decide +kernel
theorem dX11_actFor_11 : decode cX11_actFor 11 = .ok (.isub, 1) := by decide +kernel
theorem dX11_actFor_12 : decode cX11_actFor 12 = .ok (.istore_n 3, 1) := by decide +kernel
theorem dX11_actFor_13 : decode cX11_actFor 13 = .ok (.iload_n 3, 1) := by decide +kernel
theorem dX11_actFor_14 : decode cX11_actFor 14 = .ok (.ifCond .lt 72, 3) := by decide +kernel
theorem dX11_actFor_17 : decode cX11_actFor 17 = .ok (.iload_n 2, 1) := by decide +kernel
theorem dX11_actFor_18 : decode cX11_actFor 18 = .ok (.aload_n 0, 1) := by decide +kernel
theorem dX11_actFor_19 : decode cX11_actFor 19 = .ok (.getfield 32, 3) := by decide +kernel
theorem dX11_actFor_22 : decode cX11_actFor 22 = .ok (.getfield 333, 3) := by decide +kernel
theorem dX11_actFor_25 : decode cX11_actFor 25 = .ok (.getfield 476, 3) := by decide +kernel
theorem dX11_actFor_28 : decode cX11_actFor 28 = .ok (.iload_n 3, 1) := by decide +kernel
theorem dX11_actFor_29 : decode cX11_actFor 29 = .ok (.iaload, 1) := by decide +kernel
theorem dX11_actFor_30 : decode cX11_actFor 30 = .ok (.aload_n 0, 1) := by decide +kernel
theorem dX11_actFor_31 : decode cX11_actFor 31 = .ok (.getfield 32, 3) := by decide +kernel
theorem dX11_actFor_34 : decode cX11_actFor 34 = .ok (.getfield 333, 3) := by decide +kernel
theorem dX11_actFor_37 : decode cX11_actFor 37 = .ok (.getfield 479, 3) := by decide +kernel
theorem dX11_actFor_40 : decode cX11_actFor 40 = .ok (.iload_n 3, 1) := by decide +kernel
theorem dX11_actFor_41 : decode cX11_actFor 41 = .ok (.iaload, 1) := by decide +kernel
theorem dX11_actFor_42 : decode cX11_actFor 42 = .ok (.invokestatic 85, 3) := by decide +kernel
theorem dX11_actFor_45 : decode cX11_actFor 45 = .ok (.ifCond .eq 35, 3) := by decide +kernel
theorem dX11_actFor_48 : decode cX11_actFor 48 = .ok (.aload_n 0, 1) := by decide +kernel
theorem dX11_actFor_49 : decode cX11_actFor 49 = .ok (.getfield 59, 3) := by decide +kernel
theorem dX11_actFor_52 : decode cX11_actFor 52 = .ok (.aload_n 0, 1) := by decide +kernel
theorem dX11_actFor_53 : decode cX11_actFor 53 = .ok (.getfield 32, 3) := by decide +kernel
theorem dX11_actFor_56 : decode cX11_actFor 56 = .ok (.getfield 333, 3) := by decide +kernel
theorem dX11_actFor_59 : decode cX11_actFor 59 = .ok (.getfield 482, 3) := by decide +kernel
theorem dX11_actFor_62 : decode cX11_actFor 62 = .ok (.iload_n 3, 1) := by decide +kernel
theorem dX11_actFor_63 : decode cX11_actFor 63 = .ok (.iaload, 1) := by decide +kernel
theorem dX11_actFor_64 : decode cX11_actFor 64 = .ok (.aaload, 1) := by decide +kernel
theorem dX11_actFor_65 : decode cX11_actFor 65 = .ok (.astore 4, 2) := by decide +kernel
theorem dX11_actFor_67 : decode cX11_actFor 67 = .ok (.aload 4, 2) := by decide +kernel
theorem dX11_actFor_69 : decode cX11_actFor 69 = .ok (.iload_n 1, 1) := by decide +kernel
theorem dX11_actFor_70 : decode cX11_actFor 70 = .ok (.invokevirtual 485, 3) := by decide +kernel
theorem dX11_actFor_73 : decode cX11_actFor 73 = .ok (.iconst (-1), 1) := by decide +kernel
theorem dX11_actFor_74 : decode cX11_actFor 74 = .ok (.if_icmp .eq 6, 3) := by decide +kernel
theorem dX11_actFor_77 : decode cX11_actFor 77 = .ok (.aload 4, 2) := by decide +kernel
theorem dX11_actFor_79 : decode cX11_actFor 79 = .ok (.areturn, 1) := by decide +kernel
theorem dX11_actFor_80 : decode cX11_actFor 80 = .ok (.iinc 3 (-1), 3) := by decide +kernel
theorem dX11_actFor_83 : decode cX11_actFor 83 = .ok (.goto (-70), 3) := by decide +kernel
theorem dX11_actFor_86 : decode cX11_actFor 86 = .ok (.aconst_null, 1) := by decide +kernel
theorem dX11_actFor_87 : decode cX11_actFor 87 = .ok (.areturn, 1) := by decide +kernel
theorem dX11_nameHouse_0 : decode cX11_nameHouse 0 = .ok (.aload_n 0, 1) := by decide +kernel
theorem dX11_nameHouse_1 : decode cX11_nameHouse 1 = .ok (.getfield 64, 3) := by decide +kernel
theorem dX11_nameHouse_4 : decode cX11_nameHouse 4 = .ok (.iconst 0, 1) := by decide +kernel
theorem dX11_nameHouse_5 : decode cX11_nameHouse 5 = .ok (.iload_n 3, 1) := by decide +kernel
theorem dX11_nameHouse_6 : decode cX11_nameHouse 6 = .ok (.iastore, 1) := by decide +kernel
theorem dX11_nameHouse_7 : decode cX11_nameHouse 7 = .ok (.aload_n 0, 1) := by decide +kernel
theorem dX11_nameHouse_8 : decode cX11_nameHouse 8 = .ok (.getfield 64, 3) := by decide +kernel
theorem dX11_nameHouse_11 : decode cX11_nameHouse 11 = .ok (.iconst 1, 1) := by decide +kernel
theorem dX11_nameHouse_12 : decode cX11_nameHouse 12 = .ok (.aload_n 0, 1) := by decide +kernel
theorem dX11_nameHouse_13 : decode cX11_nameHouse 13 = .ok (.getfield 32, 3) := by decide +kernel
theorem dX11_nameHouse_16 : decode cX11_nameHouse 16 = .ok (.getfield 277, 3) := by decide +kernel
theorem dX11_nameHouse_19 : decode cX11_nameHouse 19 = .ok (.getfield 458, 3) := by decide +kernel
theorem dX11_nameHouse_22 : decode cX11_nameHouse 22 = .ok (.iload_n 1, 1) := by decide +kernel
theorem dX11_nameHouse_23 : decode cX11_nameHouse 23 = .ok (.iaload, 1) := by decide +kernel
theorem dX11_nameHouse_24 : decode cX11_nameHouse 24 = .ok (.iastore, 1) := by decide +kernel
theorem dX11_nameHouse_25 : decode cX11_nameHouse 25 = .ok (.aload_n 0, 1) := by decide +kernel
theorem dX11_nameHouse_26 : decode cX11_nameHouse 26 = .ok (.getfield 64, 3) := by decide +kernel
theorem dX11_nameHouse_29 : decode cX11_nameHouse 29 = .ok (.iconst 2, 1) := by decide +kernel
theorem dX11_nameHouse_30 : decode cX11_nameHouse 30 = .ok (.aload_n 0, 1) := by decide +kernel
theorem dX11_nameHouse_31 : decode cX11_nameHouse 31 = .ok (.getfield 32, 3) := by decide +kernel
theorem dX11_nameHouse_34 : decode cX11_nameHouse 34 = .ok (.getfield 277, 3) := by decide +kernel
theorem dX11_nameHouse_37 : decode cX11_nameHouse 37 = .ok (.getfield 488, 3) := by decide +kernel
theorem dX11_nameHouse_40 : decode cX11_nameHouse 40 = .ok (.iload_n 1, 1) := by decide +kernel
theorem dX11_nameHouse_41 : decode cX11_nameHouse 41 = .ok (.iaload, 1) := by decide +kernel
theorem dX11_nameHouse_42 : decode cX11_nameHouse 42 = .ok (.iastore, 1) := by decide +kernel
theorem dX11_nameHouse_43 : decode cX11_nameHouse 43 = .ok (.aload_n 0, 1) := by decide +kernel
theorem dX11_nameHouse_44 : decode cX11_nameHouse 44 = .ok (.getfield 64, 3) := by decide +kernel
theorem dX11_nameHouse_47 : decode cX11_nameHouse 47 = .ok (.iconst 3, 1) := by decide +kernel
theorem dX11_nameHouse_48 : decode cX11_nameHouse 48 = .ok (.iload_n 2, 1) := by decide +kernel
theorem dX11_nameHouse_49 : decode cX11_nameHouse 49 = .ok (.iastore, 1) := by decide +kernel
theorem dX11_nameHouse_50 : decode cX11_nameHouse 50 = .ok (.aload_n 0, 1) := by decide +kernel
theorem dX11_nameHouse_51 : decode cX11_nameHouse 51 = .ok (.getfield 64, 3) := by decide +kernel
theorem dX11_nameHouse_54 : decode cX11_nameHouse 54 = .ok (.iconst 4, 1) := by decide +kernel
theorem dX11_nameHouse_55 : decode cX11_nameHouse 55 = .ok (.aload_n 0, 1) := by decide +kernel
theorem dX11_nameHouse_56 : decode cX11_nameHouse 56 = .ok (.getfield 32, 3) := by decide +kernel
theorem dX11_nameHouse_59 : decode cX11_nameHouse 59 = .ok (.getfield 277, 3) := by decide +kernel
theorem dX11_nameHouse_62 : decode cX11_nameHouse 62 = .ok (.iload_n 1, 1) := by decide +kernel
theorem dX11_nameHouse_63 : decode cX11_nameHouse 63 = .ok (.invokevirtual 491, 3) := by decide +kernel
theorem dX11_nameHouse_66 : decode cX11_nameHouse 66 = .ok (.iastore, 1) := by decide +kernel
theorem dX11_nameHouse_67 : decode cX11_nameHouse 67 = .ok (.return_, 1) := by decide +kernel
theorem dX11_shutOf_0 : decode cX11_shutOf 0 = .ok (.aload_n 0, 1) := by decide +kernel
theorem dX11_shutOf_1 : decode cX11_shutOf 1 = .ok (.iconst 0, 1) := by decide +kernel
theorem dX11_shutOf_2 : decode cX11_shutOf 2 = .ok (.iload_n 2, 1) := by decide +kernel
theorem dX11_shutOf_3 : decode cX11_shutOf 3 = .ok (.invokevirtual 365, 3) := by decide +kernel
theorem dX11_shutOf_6 : decode cX11_shutOf 6 = .ok (.astore_n 3, 1) := by decide +kernel
theorem dX11_shutOf_7 : decode cX11_shutOf 7 = .ok (.aload_n 3, 1) := by decide +kernel
theorem dX11_shutOf_8 : decode cX11_shutOf 8 = .ok (.ifnonnull 5, 3) := by decide +kernel
theorem dX11_shutOf_11 : decode cX11_shutOf 11 = .ok (.iconst 0, 1) := by decide +kernel
theorem dX11_shutOf_12 : decode cX11_shutOf 12 = .ok (.ireturn, 1) := by decide +kernel
theorem dX11_shutOf_13 : decode cX11_shutOf 13 = .ok (.aload_n 3, 1) := by decide +kernel
theorem dX11_shutOf_14 : decode cX11_shutOf 14 = .ok (.iconst 0, 1) := by decide +kernel
theorem dX11_shutOf_15 : decode cX11_shutOf 15 = .ok (.invokevirtual 485, 3) := by decide +kernel
theorem dX11_shutOf_18 : decode cX11_shutOf 18 = .ok (.istore 4, 2) := by decide +kernel
theorem dX11_shutOf_20 : decode cX11_shutOf 20 = .ok (.aload_n 0, 1) := by decide +kernel
theorem dX11_shutOf_21 : decode cX11_shutOf 21 = .ok (.invokevirtual 239, 3) := by decide +kernel
theorem dX11_shutOf_24 : decode cX11_shutOf 24 = .ok (.istore 5, 2) := by decide +kernel
theorem dX11_shutOf_26 : decode cX11_shutOf 26 = .ok (.aload_n 0, 1) := by decide +kernel
theorem dX11_shutOf_27 : decode cX11_shutOf 27 = .ok (.iload_n 1, 1) := by decide +kernel
theorem dX11_shutOf_28 : decode cX11_shutOf 28 = .ok (.iload_n 2, 1) := by decide +kernel
theorem dX11_shutOf_29 : decode cX11_shutOf 29 = .ok (.aload_n 0, 1) := by decide +kernel
theorem dX11_shutOf_30 : decode cX11_shutOf 30 = .ok (.iload_n 1, 1) := by decide +kernel
theorem dX11_shutOf_31 : decode cX11_shutOf 31 = .ok (.iload_n 2, 1) := by decide +kernel
theorem dX11_shutOf_32 : decode cX11_shutOf 32 = .ok (.iconst 0, 1) := by decide +kernel
theorem dX11_shutOf_33 : decode cX11_shutOf 33 = .ok (.iload 5, 2) := by decide +kernel
theorem dX11_shutOf_35 : decode cX11_shutOf 35 = .ok (.invokevirtual 290, 3) := by decide +kernel
theorem dX11_shutOf_38 : decode cX11_shutOf 38 = .ok (.invokevirtual 494, 3) := by decide +kernel
theorem dX11_shutOf_41 : decode cX11_shutOf 41 = .ok (.aload_n 3, 1) := by decide +kernel
theorem dX11_shutOf_42 : decode cX11_shutOf 42 = .ok (.iload 4, 2) := by decide +kernel
theorem dX11_shutOf_44 : decode cX11_shutOf 44 = .ok (.aload_n 0, 1) := by decide +kernel
theorem dX11_shutOf_45 : decode cX11_shutOf 45 = .ok (.getfield 64, 3) := by decide +kernel
theorem dX11_shutOf_48 : decode cX11_shutOf 48 = .ok (.aload_n 0, 1) := by decide +kernel
theorem dX11_shutOf_49 : decode cX11_shutOf 49 = .ok (.getfield 68, 3) := by decide +kernel
theorem dX11_shutOf_52 : decode cX11_shutOf 52 = .ok (.invokevirtual 378, 3) := by decide +kernel
theorem dX11_shutOf_55 : decode cX11_shutOf 55 = .ok (.istore 6, 2) := by decide +kernel
theorem dX11_shutOf_57 : decode cX11_shutOf 57 = .ok (.aload_n 0, 1) := by decide +kernel
theorem dX11_shutOf_58 : decode cX11_shutOf 58 = .ok (.getfield 64, 3) := by decide +kernel
theorem dX11_shutOf_61 : decode cX11_shutOf 61 = .ok (.iconst 0, 1) := by decide +kernel
theorem dX11_shutOf_62 : decode cX11_shutOf 62 = .ok (.aload_n 0, 1) := by decide +kernel
theorem dX11_shutOf_63 : decode cX11_shutOf 63 = .ok (.iload_n 1, 1) := by decide +kernel
theorem dX11_shutOf_64 : decode cX11_shutOf 64 = .ok (.iload_n 2, 1) := by decide +kernel
theorem dX11_shutOf_65 : decode cX11_shutOf 65 = .ok (.iconst 1, 1) := by decide +kernel
theorem dX11_shutOf_66 : decode cX11_shutOf 66 = .ok (.iload 5, 2) := by decide +kernel
theorem dX11_shutOf_68 : decode cX11_shutOf 68 = .ok (.invokevirtual 290, 3) := by decide +kernel
theorem dX11_shutOf_71 : decode cX11_shutOf 71 = .ok (.iastore, 1) := by decide +kernel
theorem dX11_shutOf_72 : decode cX11_shutOf 72 = .ok (.iload 6, 2) := by decide +kernel
theorem dX11_shutOf_74 : decode cX11_shutOf 74 = .ok (.aload_n 3, 1) := by decide +kernel
theorem dX11_shutOf_75 : decode cX11_shutOf 75 = .ok (.iload 4, 2) := by decide +kernel
theorem dX11_shutOf_77 : decode cX11_shutOf 77 = .ok (.aload_n 0, 1) := by decide +kernel
theorem dX11_shutOf_78 : decode cX11_shutOf 78 = .ok (.getfield 64, 3) := by decide +kernel
theorem dX11_shutOf_81 : decode cX11_shutOf 81 = .ok (.aload_n 0, 1) := by decide +kernel
theorem dX11_shutOf_82 : decode cX11_shutOf 82 = .ok (.getfield 68, 3) := by decide +kernel
theorem dX11_shutOf_85 : decode cX11_shutOf 85 = .ok (.invokevirtual 378, 3) := by decide +kernel
theorem dX11_shutOf_88 : decode cX11_shutOf 88 = .ok (.iadd, 1) := by decide +kernel
theorem dX11_shutOf_89 : decode cX11_shutOf 89 = .ok (.ireturn, 1) := by decide +kernel
theorem dX11_worthOf_0 : decode cX11_worthOf 0 = .ok (.aload_n 0, 1) := by decide +kernel
theorem dX11_worthOf_1 : decode cX11_worthOf 1 = .ok (.iconst 1, 1) := by decide +kernel
theorem dX11_worthOf_2 : decode cX11_worthOf 2 = .ok (.iload_n 2, 1) := by decide +kernel
theorem dX11_worthOf_3 : decode cX11_worthOf 3 = .ok (.invokevirtual 365, 3) := by decide +kernel
theorem dX11_worthOf_6 : decode cX11_worthOf 6 = .ok (.astore 4, 2) := by decide +kernel
theorem dX11_worthOf_8 : decode cX11_worthOf 8 = .ok (.aload 4, 2) := by decide +kernel
theorem dX11_worthOf_10 : decode cX11_worthOf 10 = .ok (.ifnonnull 19, 3) := by decide +kernel
theorem dX11_worthOf_13 : decode cX11_worthOf 13 = .ok (.aload_n 0, 1) := by decide +kernel
theorem dX11_worthOf_14 : decode cX11_worthOf 14 = .ok (.getfield 32, 3) := by decide +kernel
theorem dX11_worthOf_17 : decode cX11_worthOf 17 = .ok (.getfield 277, 3) := by decide +kernel
theorem dX11_worthOf_20 : decode cX11_worthOf 20 = .ok (.getfield 488, 3) := by decide +kernel
theorem dX11_worthOf_23 : decode cX11_worthOf 23 = .ok (.iload_n 1, 1) := by decide +kernel
theorem dX11_worthOf_24 : decode cX11_worthOf 24 = .ok (.iaload, 1) := by decide +kernel
theorem dX11_worthOf_25 : decode cX11_worthOf 25 = .ok (.bipush 100, 2) := by decide +kernel
theorem dX11_worthOf_27 : decode cX11_worthOf 27 = .ok (.imul, 1) := by decide +kernel
theorem dX11_worthOf_28 : decode cX11_worthOf 28 = .ok (.ireturn, 1) := by decide +kernel
theorem dX11_worthOf_29 : decode cX11_worthOf 29 = .ok (.aload_n 0, 1) := by decide +kernel
theorem dX11_worthOf_30 : decode cX11_worthOf 30 = .ok (.iload_n 1, 1) := by decide +kernel
theorem dX11_worthOf_31 : decode cX11_worthOf 31 = .ok (.iload_n 2, 1) := by decide +kernel
theorem dX11_worthOf_32 : decode cX11_worthOf 32 = .ok (.iload_n 3, 1) := by decide +kernel
theorem dX11_worthOf_33 : decode cX11_worthOf 33 = .ok (.ifCond .eq 17, 3) := by decide +kernel
theorem dX11_worthOf_36 : decode cX11_worthOf 36 = .ok (.aload_n 0, 1) := by decide +kernel
theorem dX11_worthOf_37 : decode cX11_worthOf 37 = .ok (.iload_n 1, 1) := by decide +kernel
theorem dX11_worthOf_38 : decode cX11_worthOf 38 = .ok (.iload_n 2, 1) := by decide +kernel
theorem dX11_worthOf_39 : decode cX11_worthOf 39 = .ok (.iconst 1, 1) := by decide +kernel
theorem dX11_worthOf_40 : decode cX11_worthOf 40 = .ok (.aload_n 0, 1) := by decide +kernel
theorem dX11_worthOf_41 : decode cX11_worthOf 41 = .ok (.invokevirtual 239, 3) := by decide +kernel
theorem dX11_worthOf_44 : decode cX11_worthOf 44 = .ok (.invokevirtual 290, 3) := by decide +kernel
theorem dX11_worthOf_47 : decode cX11_worthOf 47 = .ok (.goto 4, 3) := by decide +kernel
theorem dX11_worthOf_50 : decode cX11_worthOf 50 = .ok (.iconst 0, 1) := by decide +kernel
theorem dX11_worthOf_51 : decode cX11_worthOf 51 = .ok (.invokevirtual 494, 3) := by decide +kernel
theorem dX11_worthOf_54 : decode cX11_worthOf 54 = .ok (.iconst 0, 1) := by decide +kernel
theorem dX11_worthOf_55 : decode cX11_worthOf 55 = .ok (.aload 4, 2) := by decide +kernel
theorem dX11_worthOf_57 : decode cX11_worthOf 57 = .ok (.aload 4, 2) := by decide +kernel
theorem dX11_worthOf_59 : decode cX11_worthOf 59 = .ok (.iconst 1, 1) := by decide +kernel
theorem dX11_worthOf_60 : decode cX11_worthOf 60 = .ok (.invokevirtual 485, 3) := by decide +kernel
theorem dX11_worthOf_63 : decode cX11_worthOf 63 = .ok (.aload_n 0, 1) := by decide +kernel
theorem dX11_worthOf_64 : decode cX11_worthOf 64 = .ok (.getfield 64, 3) := by decide +kernel
theorem dX11_worthOf_67 : decode cX11_worthOf 67 = .ok (.aload_n 0, 1) := by decide +kernel
theorem dX11_worthOf_68 : decode cX11_worthOf 68 = .ok (.getfield 68, 3) := by decide +kernel
theorem dX11_worthOf_71 : decode cX11_worthOf 71 = .ok (.invokevirtual 378, 3) := by decide +kernel
theorem dX11_worthOf_74 : decode cX11_worthOf 74 = .ok (.invokestatic 15, 3) := by decide +kernel
theorem dX11_worthOf_77 : decode cX11_worthOf 77 = .ok (.ireturn, 1) := by decide +kernel
theorem dX11_countVotes_0 : decode cX11_countVotes 0 = .ok (.aload_n 0, 1) := by decide +kernel
theorem dX11_countVotes_1 : decode cX11_countVotes 1 = .ok (.getfield 32, 3) := by decide +kernel
theorem dX11_countVotes_4 : decode cX11_countVotes 4 = .ok (.getfield 277, 3) := by decide +kernel
theorem dX11_countVotes_7 : decode cX11_countVotes 7 = .ok (.astore_n 2, 1) := by decide +kernel
theorem dX11_countVotes_8 : decode cX11_countVotes 8 = .ok (.aload_n 0, 1) := by decide +kernel
theorem dX11_countVotes_9 : decode cX11_countVotes 9 = .ok (.iconst 3, 1) := by decide +kernel
theorem dX11_countVotes_10 : decode cX11_countVotes 10 = .ok (.iload_n 1, 1) := by decide +kernel
theorem dX11_countVotes_11 : decode cX11_countVotes 11 = .ok (.invokevirtual 365, 3) := by decide +kernel
theorem dX11_countVotes_14 : decode cX11_countVotes 14 = .ok (.astore_n 3, 1) := by decide +kernel
theorem dX11_countVotes_15 : decode cX11_countVotes 15 = .ok (.aload_n 3, 1) := by decide +kernel
theorem dX11_countVotes_16 : decode cX11_countVotes 16 = .ok (.ifnonnull 7, 3) := by decide +kernel
theorem dX11_countVotes_19 : decode cX11_countVotes 19 = .ok (.iconst 0, 1) := by decide +kernel
theorem dX11_countVotes_20 : decode cX11_countVotes 20 = .ok (.goto 7, 3) := by decide +kernel
theorem dX11_countVotes_23 : decode cX11_countVotes 23 = .ok (.aload_n 0, 1) := by decide +kernel
theorem dX11_countVotes_24 : decode cX11_countVotes 24 = .ok (.invokevirtual 239, 3) := by decide +kernel
theorem dX11_countVotes_27 : decode cX11_countVotes 27 = .ok (.istore 4, 2) := by decide +kernel
theorem dX11_countVotes_29 : decode cX11_countVotes 29 = .ok (.iconst 0, 1) := by decide +kernel
theorem dX11_countVotes_30 : decode cX11_countVotes 30 = .ok (.istore 5, 2) := by decide +kernel
theorem dX11_countVotes_32 : decode cX11_countVotes 32 = .ok (.iconst 0, 1) := by decide +kernel
theorem dX11_countVotes_33 : decode cX11_countVotes 33 = .ok (.istore 6, 2) := by decide +kernel
theorem dX11_countVotes_35 : decode cX11_countVotes 35 = .ok (.iload 6, 2) := by decide +kernel
theorem dX11_countVotes_37 : decode cX11_countVotes 37 = .ok (.aload_n 2, 1) := by decide +kernel
theorem dX11_countVotes_38 : decode cX11_countVotes 38 = .ok (.getfield 294, 3) := by decide +kernel
theorem dX11_countVotes_41 : decode cX11_countVotes 41 = .ok (.if_icmp .ge 60, 3) := by decide +kernel
theorem dX11_countVotes_44 : decode cX11_countVotes 44 = .ok (.aload_n 0, 1) := by decide +kernel
theorem dX11_countVotes_45 : decode cX11_countVotes 45 = .ok (.getfield 73, 3) := by decide +kernel
theorem dX11_countVotes_48 : decode cX11_countVotes 48 = .ok (.iload 6, 2) := by decide +kernel
theorem dX11_countVotes_50 : decode cX11_countVotes 50 = .ok (.aload_n 3, 1) := by decide +kernel
theorem dX11_countVotes_51 : decode cX11_countVotes 51 = .ok (.ifnull 29, 3) := by decide +kernel
theorem dX11_countVotes_54 : decode cX11_countVotes 54 = .ok (.aload_n 2, 1) := by decide +kernel
theorem dX11_countVotes_55 : decode cX11_countVotes 55 = .ok (.iload 6, 2) := by decide +kernel
theorem dX11_countVotes_57 : decode cX11_countVotes 57 = .ok (.invokevirtual 497, 3) := by decide +kernel
theorem dX11_countVotes_60 : decode cX11_countVotes 60 = .ok (.ifCond .eq 20, 3) := by decide +kernel
theorem dX11_countVotes_63 : decode cX11_countVotes 63 = .ok (.aload_n 0, 1) := by decide +kernel
theorem dX11_countVotes_64 : decode cX11_countVotes 64 = .ok (.iload 6, 2) := by decide +kernel
theorem dX11_countVotes_66 : decode cX11_countVotes 66 = .ok (.iload_n 1, 1) := by decide +kernel
theorem dX11_countVotes_67 : decode cX11_countVotes 67 = .ok (.aload_n 3, 1) := by decide +kernel
theorem dX11_countVotes_68 : decode cX11_countVotes 68 = .ok (.iload 4, 2) := by decide +kernel
theorem dX11_countVotes_70 : decode cX11_countVotes 70 = .ok (.invokevirtual 500, 3) := by decide +kernel
theorem dX11_countVotes_73 : decode cX11_countVotes 73 = .ok (.ifCond .eq 7, 3) := by decide +kernel
theorem dX11_countVotes_76 : decode cX11_countVotes 76 = .ok (.iconst 1, 1) := by decide +kernel
theorem dX11_countVotes_77 : decode cX11_countVotes 77 = .ok (.goto 4, 3) := by decide +kernel
theorem dX11_countVotes_80 : decode cX11_countVotes 80 = .ok (.iconst 0, 1) := by decide +kernel
theorem dX11_countVotes_81 : decode cX11_countVotes 81 = .ok (.bastore, 1) := by decide +kernel
theorem dX11_countVotes_82 : decode cX11_countVotes 82 = .ok (.aload_n 0, 1) := by decide +kernel
theorem dX11_countVotes_83 : decode cX11_countVotes 83 = .ok (.getfield 73, 3) := by decide +kernel
theorem dX11_countVotes_86 : decode cX11_countVotes 86 = .ok (.iload 6, 2) := by decide +kernel
theorem dX11_countVotes_88 : decode cX11_countVotes 88 = .ok (.baload, 1) := by decide +kernel
theorem dX11_countVotes_89 : decode cX11_countVotes 89 = .ok (.ifCond .eq 6, 3) := by decide +kernel
theorem dX11_countVotes_92 : decode cX11_countVotes 92 = .ok (.iinc 5 1, 3) := by decide +kernel
theorem dX11_countVotes_95 : decode cX11_countVotes 95 = .ok (.iinc 6 1, 3) := by decide +kernel
theorem dX11_countVotes_98 : decode cX11_countVotes 98 = .ok (.goto (-63), 3) := by decide +kernel
theorem dX11_countVotes_101 : decode cX11_countVotes 101 = .ok (.iload 5, 2) := by decide +kernel
theorem dX11_countVotes_103 : decode cX11_countVotes 103 = .ok (.ireturn, 1) := by decide +kernel
theorem dX11_votesYes_0 : decode cX11_votesYes 0 = .ok (.aload_n 0, 1) := by decide +kernel
theorem dX11_votesYes_1 : decode cX11_votesYes 1 = .ok (.getfield 32, 3) := by decide +kernel
theorem dX11_votesYes_4 : decode cX11_votesYes 4 = .ok (.getfield 277, 3) := by decide +kernel
theorem dX11_votesYes_7 : decode cX11_votesYes 7 = .ok (.astore 5, 2) := by decide +kernel
theorem dX11_votesYes_9 : decode cX11_votesYes 9 = .ok (.aload 5, 2) := by decide +kernel
theorem dX11_votesYes_11 : decode cX11_votesYes 11 = .ok (.getfield 504, 3) := by decide +kernel
theorem dX11_votesYes_14 : decode cX11_votesYes 14 = .ok (.iload_n 1, 1) := by decide +kernel
theorem dX11_votesYes_15 : decode cX11_votesYes 15 = .ok (.iaload, 1) := by decide +kernel
theorem dX11_votesYes_16 : decode cX11_votesYes 16 = .ok (.istore 6, 2) := by decide +kernel
theorem dX11_votesYes_18 : decode cX11_votesYes 18 = .ok (.aload_n 0, 1) := by decide +kernel
theorem dX11_votesYes_19 : decode cX11_votesYes 19 = .ok (.iload 6, 2) := by decide +kernel
theorem dX11_votesYes_21 : decode cX11_votesYes 21 = .ok (.iload_n 2, 1) := by decide +kernel
theorem dX11_votesYes_22 : decode cX11_votesYes 22 = .ok (.aload_n 0, 1) := by decide +kernel
theorem dX11_votesYes_23 : decode cX11_votesYes 23 = .ok (.iload 6, 2) := by decide +kernel
theorem dX11_votesYes_25 : decode cX11_votesYes 25 = .ok (.iload_n 2, 1) := by decide +kernel
theorem dX11_votesYes_26 : decode cX11_votesYes 26 = .ok (.iconst 1, 1) := by decide +kernel
theorem dX11_votesYes_27 : decode cX11_votesYes 27 = .ok (.iload 4, 2) := by decide +kernel
theorem dX11_votesYes_29 : decode cX11_votesYes 29 = .ok (.invokevirtual 290, 3) := by decide +kernel
theorem dX11_votesYes_32 : decode cX11_votesYes 32 = .ok (.invokevirtual 494, 3) := by decide +kernel
theorem dX11_votesYes_35 : decode cX11_votesYes 35 = .ok (.aload_n 0, 1) := by decide +kernel
theorem dX11_votesYes_36 : decode cX11_votesYes 36 = .ok (.getfield 64, 3) := by decide +kernel
theorem dX11_votesYes_39 : decode cX11_votesYes 39 = .ok (.iconst 5, 1) := by decide +kernel
theorem dX11_votesYes_40 : decode cX11_votesYes 40 = .ok (.aload 5, 2) := by decide +kernel
theorem dX11_votesYes_42 : decode cX11_votesYes 42 = .ok (.getfield 303, 3) := by decide +kernel
theorem dX11_votesYes_45 : decode cX11_votesYes 45 = .ok (.iload_n 1, 1) := by decide +kernel
theorem dX11_votesYes_46 : decode cX11_votesYes 46 = .ok (.iaload, 1) := by decide +kernel
theorem dX11_votesYes_47 : decode cX11_votesYes 47 = .ok (.iastore, 1) := by decide +kernel
theorem dX11_votesYes_48 : decode cX11_votesYes 48 = .ok (.aload_n 0, 1) := by decide +kernel
theorem dX11_votesYes_49 : decode cX11_votesYes 49 = .ok (.getfield 64, 3) := by decide +kernel
theorem dX11_votesYes_52 : decode cX11_votesYes 52 = .ok (.bipush 6, 2) := by decide +kernel
theorem dX11_votesYes_54 : decode cX11_votesYes 54 = .ok (.aload 5, 2) := by decide +kernel
theorem dX11_votesYes_56 : decode cX11_votesYes 56 = .ok (.getfield 507, 3) := by decide +kernel
theorem dX11_votesYes_59 : decode cX11_votesYes 59 = .ok (.iload_n 1, 1) := by decide +kernel
theorem dX11_votesYes_60 : decode cX11_votesYes 60 = .ok (.iaload, 1) := by decide +kernel
