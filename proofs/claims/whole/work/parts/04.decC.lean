theorem dX4_endOf_16 : decode cX4_endOf 16 = .ok (.getfield 155, 3) := by decide +kernel
theorem dX4_endOf_19 : decode cX4_endOf 19 = .ok (.invokevirtual 120, 3) := by decide +kernel
theorem dX4_endOf_22 : decode cX4_endOf 22 = .ok (.areturn, 1) := by decide +kernel
theorem dX4_leadOn_0 : decode cX4_leadOn 0 = .ok (.iconst 0, 1) := by decide +kernel
theorem dX4_leadOn_1 : decode cX4_leadOn 1 = .ok (.istore_n 3, 1) := by decide +kernel
theorem dX4_leadOn_2 : decode cX4_leadOn 2 = .ok (.iload_n 3, 1) := by decide +kernel
theorem dX4_leadOn_3 : decode cX4_leadOn 3 = .ok (.aload_n 0, 1) := by decide +kernel
theorem dX4_leadOn_4 : decode cX4_leadOn 4 = .ok (.getfield 35, 3) := by decide +kernel
theorem dX4_leadOn_7 : decode cX4_leadOn 7 = .ok (.if_icmp .ge 36, 3) := by decide +kernel
theorem dX4_leadOn_10 : decode cX4_leadOn 10 = .ok (.aload_n 0, 1) := by decide +kernel
theorem dX4_leadOn_11 : decode cX4_leadOn 11 = .ok (.iload_n 3, 1) := by decide +kernel
theorem dX4_leadOn_12 : decode cX4_leadOn 12 = .ok (.invokevirtual 120, 3) := by decide +kernel
theorem dX4_leadOn_15 : decode cX4_leadOn 15 = .ok (.astore 4, 2) := by decide +kernel
theorem dX4_leadOn_17 : decode cX4_leadOn 17 = .ok (.aload 4, 2) := by decide +kernel
theorem dX4_leadOn_19 : decode cX4_leadOn 19 = .ok (.ifnull 18, 3) := by decide +kernel
theorem dX4_leadOn_22 : decode cX4_leadOn 22 = .ok (.aload 4, 2) := by decide +kernel
theorem dX4_leadOn_24 : decode cX4_leadOn 24 = .ok (.getfield 155, 3) := by decide +kernel
theorem dX4_leadOn_27 : decode cX4_leadOn 27 = .ok (.iload_n 1, 1) := by decide +kernel
theorem dX4_leadOn_28 : decode cX4_leadOn 28 = .ok (.if_icmp .ne 9, 3) := by decide +kernel
theorem dX4_leadOn_31 : decode cX4_leadOn 31 = .ok (.aload 4, 2) := by decide +kernel
theorem dX4_leadOn_33 : decode cX4_leadOn 33 = .ok (.iload_n 2, 1) := by decide +kernel
theorem dX4_leadOn_34 : decode cX4_leadOn 34 = .ok (.putfield 155, 3) := by decide +kernel
theorem dX4_leadOn_37 : decode cX4_leadOn 37 = .ok (.iinc 3 1, 3) := by decide +kernel
theorem dX4_leadOn_40 : decode cX4_leadOn 40 = .ok (.goto (-38), 3) := by decide +kernel
theorem dX4_leadOn_43 : decode cX4_leadOn 43 = .ok (.return_, 1) := by decide +kernel
theorem dX4_partNow_0 : decode cX4_partNow 0 = .ok (.aload_n 0, 1) := by decide +kernel
theorem dX4_partNow_1 : decode cX4_partNow 1 = .ok (.aload_n 1, 1) := by decide +kernel
theorem dX4_partNow_2 : decode cX4_partNow 2 = .ok (.iload_n 2, 1) := by decide +kernel
theorem dX4_partNow_3 : decode cX4_partNow 3 = .ok (.invokevirtual 259, 3) := by decide +kernel
theorem dX4_partNow_6 : decode cX4_partNow 6 = .ok (.invokevirtual 133, 3) := by decide +kernel
theorem dX4_partNow_9 : decode cX4_partNow 9 = .ok (.astore_n 3, 1) := by decide +kernel
theorem dX4_partNow_10 : decode cX4_partNow 10 = .ok (.aload_n 3, 1) := by decide +kernel
theorem dX4_partNow_11 : decode cX4_partNow 11 = .ok (.ifnonnull 7, 3) := by decide +kernel
theorem dX4_partNow_14 : decode cX4_partNow 14 = .ok (.iconst (-1), 1) := by decide +kernel
theorem dX4_partNow_15 : decode cX4_partNow 15 = .ok (.goto 7, 3) := by decide +kernel
theorem dX4_partNow_18 : decode cX4_partNow 18 = .ok (.aload_n 3, 1) := by decide +kernel
theorem dX4_partNow_19 : decode cX4_partNow 19 = .ok (.getfield 99, 3) := by decide +kernel
theorem dX4_partNow_22 : decode cX4_partNow 22 = .ok (.ireturn, 1) := by decide +kernel
theorem dX4_areAllPlain_0 : decode cX4_areAllPlain 0 = .ok (.iconst 0, 1) := by decide +kernel
theorem dX4_areAllPlain_1 : decode cX4_areAllPlain 1 = .ok (.istore_n 2, 1) := by decide +kernel
theorem dX4_areAllPlain_2 : decode cX4_areAllPlain 2 = .ok (.iload_n 2, 1) := by decide +kernel
theorem dX4_areAllPlain_3 : decode cX4_areAllPlain 3 = .ok (.aload_n 0, 1) := by decide +kernel
theorem dX4_areAllPlain_4 : decode cX4_areAllPlain 4 = .ok (.getfield 35, 3) := by decide +kernel
theorem dX4_areAllPlain_7 : decode cX4_areAllPlain 7 = .ok (.if_icmp .ge 37, 3) := by decide +kernel
theorem dX4_areAllPlain_10 : decode cX4_areAllPlain 10 = .ok (.aload_n 0, 1) := by decide +kernel
theorem dX4_areAllPlain_11 : decode cX4_areAllPlain 11 = .ok (.iload_n 2, 1) := by decide +kernel
theorem dX4_areAllPlain_12 : decode cX4_areAllPlain 12 = .ok (.invokevirtual 120, 3) := by decide +kernel
theorem dX4_areAllPlain_15 : decode cX4_areAllPlain 15 = .ok (.astore_n 3, 1) := by decide +kernel
theorem dX4_areAllPlain_16 : decode cX4_areAllPlain 16 = .ok (.aload_n 3, 1) := by decide +kernel
theorem dX4_areAllPlain_17 : decode cX4_areAllPlain 17 = .ok (.ifnull 21, 3) := by decide +kernel
theorem dX4_areAllPlain_20 : decode cX4_areAllPlain 20 = .ok (.iload_n 1, 1) := by decide +kernel
theorem dX4_areAllPlain_21 : decode cX4_areAllPlain 21 = .ok (.iload_n 2, 1) := by decide +kernel
theorem dX4_areAllPlain_22 : decode cX4_areAllPlain 22 = .ok (.invokestatic 105, 3) := by decide +kernel
theorem dX4_areAllPlain_25 : decode cX4_areAllPlain 25 = .ok (.iand, 1) := by decide +kernel
theorem dX4_areAllPlain_26 : decode cX4_areAllPlain 26 = .ok (.ifCond .eq 12, 3) := by decide +kernel
theorem dX4_areAllPlain_29 : decode cX4_areAllPlain 29 = .ok (.aload_n 3, 1) := by decide +kernel
theorem dX4_areAllPlain_30 : decode cX4_areAllPlain 30 = .ok (.invokevirtual 124, 3) := by decide +kernel
theorem dX4_areAllPlain_33 : decode cX4_areAllPlain 33 = .ok (.ifCond .eq 5, 3) := by decide +kernel
theorem dX4_areAllPlain_36 : decode cX4_areAllPlain 36 = .ok (.iconst 0, 1) := by decide +kernel
theorem dX4_areAllPlain_37 : decode cX4_areAllPlain 37 = .ok (.ireturn, 1) := by decide +kernel
theorem dX4_areAllPlain_38 : decode cX4_areAllPlain 38 = .ok (.iinc 2 1, 3) := by decide +kernel
theorem dX4_areAllPlain_41 : decode cX4_areAllPlain 41 = .ok (.goto (-39), 3) := by decide +kernel
theorem dX4_areAllPlain_44 : decode cX4_areAllPlain 44 = .ok (.iconst 1, 1) := by decide +kernel
theorem dX4_areAllPlain_45 : decode cX4_areAllPlain 45 = .ok (.ireturn, 1) := by decide +kernel
theorem dX4_mayMelt_0 : decode cX4_mayMelt 0 = .ok (.aload_n 0, 1) := by decide +kernel
theorem dX4_mayMelt_1 : decode cX4_mayMelt 1 = .ok (.invokevirtual 124, 3) := by decide +kernel
theorem dX4_mayMelt_4 : decode cX4_mayMelt 4 = .ok (.ifCond .ne 50, 3) := by decide +kernel
theorem dX4_mayMelt_7 : decode cX4_mayMelt 7 = .ok (.aload_n 1, 1) := by decide +kernel
theorem dX4_mayMelt_8 : decode cX4_mayMelt 8 = .ok (.invokevirtual 124, 3) := by decide +kernel
theorem dX4_mayMelt_11 : decode cX4_mayMelt 11 = .ok (.ifCond .ne 43, 3) := by decide +kernel
theorem dX4_mayMelt_14 : decode cX4_mayMelt 14 = .ok (.aload_n 0, 1) := by decide +kernel
theorem dX4_mayMelt_15 : decode cX4_mayMelt 15 = .ok (.getfield 158, 3) := by decide +kernel
theorem dX4_mayMelt_18 : decode cX4_mayMelt 18 = .ok (.aload_n 1, 1) := by decide +kernel
theorem dX4_mayMelt_19 : decode cX4_mayMelt 19 = .ok (.getfield 158, 3) := by decide +kernel
theorem dX4_mayMelt_22 : decode cX4_mayMelt 22 = .ok (.if_icmp .ne 32, 3) := by decide +kernel
theorem dX4_mayMelt_25 : decode cX4_mayMelt 25 = .ok (.aload_n 0, 1) := by decide +kernel
theorem dX4_mayMelt_26 : decode cX4_mayMelt 26 = .ok (.aload_n 1, 1) := by decide +kernel
theorem dX4_mayMelt_27 : decode cX4_mayMelt 27 = .ok (.invokestatic 262, 3) := by decide +kernel
theorem dX4_mayMelt_30 : decode cX4_mayMelt 30 = .ok (.iconst 2, 1) := by decide +kernel
theorem dX4_mayMelt_31 : decode cX4_mayMelt 31 = .ok (.if_icmp .ge 19, 3) := by decide +kernel
theorem dX4_mayMelt_34 : decode cX4_mayMelt 34 = .ok (.aload_n 1, 1) := by decide +kernel
theorem dX4_mayMelt_35 : decode cX4_mayMelt 35 = .ok (.aload_n 0, 1) := by decide +kernel
theorem dX4_mayMelt_36 : decode cX4_mayMelt 36 = .ok (.invokestatic 266, 3) := by decide +kernel
theorem dX4_mayMelt_39 : decode cX4_mayMelt 39 = .ok (.ifCond .ne 11, 3) := by decide +kernel
theorem dX4_mayMelt_42 : decode cX4_mayMelt 42 = .ok (.aload_n 0, 1) := by decide +kernel
theorem dX4_mayMelt_43 : decode cX4_mayMelt 43 = .ok (.aload_n 1, 1) := by decide +kernel
theorem dX4_mayMelt_44 : decode cX4_mayMelt 44 = .ok (.invokestatic 266, 3) := by decide +kernel
theorem dX4_mayMelt_47 : decode cX4_mayMelt 47 = .ok (.ifCond .eq 7, 3) := by decide +kernel
theorem dX4_mayMelt_50 : decode cX4_mayMelt 50 = .ok (.iconst 1, 1) := by decide +kernel
theorem dX4_mayMelt_51 : decode cX4_mayMelt 51 = .ok (.goto 4, 3) := by decide +kernel
theorem dX4_mayMelt_54 : decode cX4_mayMelt 54 = .ok (.iconst 0, 1) := by decide +kernel
theorem dX4_mayMelt_55 : decode cX4_mayMelt 55 = .ok (.ireturn, 1) := by decide +kernel
theorem dX4_likeSets_0 : decode cX4_likeSets 0 = .ok (.iconst 0, 1) := by decide +kernel
theorem dX4_likeSets_1 : decode cX4_likeSets 1 = .ok (.istore_n 2, 1) := by decide +kernel
theorem dX4_likeSets_2 : decode cX4_likeSets 2 = .ok (.iconst 0, 1) := by decide +kernel
theorem dX4_likeSets_3 : decode cX4_likeSets 3 = .ok (.istore_n 3, 1) := by decide +kernel
theorem dX4_likeSets_4 : decode cX4_likeSets 4 = .ok (.iload_n 3, 1) := by decide +kernel
theorem dX4_likeSets_5 : decode cX4_likeSets 5 = .ok (.iconst 3, 1) := by decide +kernel
theorem dX4_likeSets_6 : decode cX4_likeSets 6 = .ok (.if_icmp .ge 25, 3) := by decide +kernel
theorem dX4_likeSets_9 : decode cX4_likeSets 9 = .ok (.aload_n 0, 1) := by decide +kernel
theorem dX4_likeSets_10 : decode cX4_likeSets 10 = .ok (.iload_n 3, 1) := by decide +kernel
theorem dX4_likeSets_11 : decode cX4_likeSets 11 = .ok (.invokevirtual 161, 3) := by decide +kernel
theorem dX4_likeSets_14 : decode cX4_likeSets 14 = .ok (.aload_n 1, 1) := by decide +kernel
theorem dX4_likeSets_15 : decode cX4_likeSets 15 = .ok (.iload_n 3, 1) := by decide +kernel
theorem dX4_likeSets_16 : decode cX4_likeSets 16 = .ok (.invokevirtual 161, 3) := by decide +kernel
theorem dX4_likeSets_19 : decode cX4_likeSets 19 = .ok (.if_icmp .ne 6, 3) := by decide +kernel
theorem dX4_likeSets_22 : decode cX4_likeSets 22 = .ok (.iinc 2 1, 3) := by decide +kernel
theorem dX4_likeSets_25 : decode cX4_likeSets 25 = .ok (.iinc 3 1, 3) := by decide +kernel
theorem dX4_likeSets_28 : decode cX4_likeSets 28 = .ok (.goto (-24), 3) := by decide +kernel
theorem dX4_likeSets_31 : decode cX4_likeSets 31 = .ok (.iload_n 2, 1) := by decide +kernel
theorem dX4_likeSets_32 : decode cX4_likeSets 32 = .ok (.ireturn, 1) := by decide +kernel
theorem dX4_isInside_0 : decode cX4_isInside 0 = .ok (.iconst 0, 1) := by decide +kernel
theorem dX4_isInside_1 : decode cX4_isInside 1 = .ok (.istore_n 2, 1) := by decide +kernel
theorem dX4_isInside_2 : decode cX4_isInside 2 = .ok (.iload_n 2, 1) := by decide +kernel
theorem dX4_isInside_3 : decode cX4_isInside 3 = .ok (.iconst 3, 1) := by decide +kernel
theorem dX4_isInside_4 : decode cX4_isInside 4 = .ok (.if_icmp .ge 27, 3) := by decide +kernel
theorem dX4_isInside_7 : decode cX4_isInside 7 = .ok (.aload_n 0, 1) := by decide +kernel
theorem dX4_isInside_8 : decode cX4_isInside 8 = .ok (.iload_n 2, 1) := by decide +kernel
theorem dX4_isInside_9 : decode cX4_isInside 9 = .ok (.invokevirtual 161, 3) := by decide +kernel
theorem dX4_isInside_12 : decode cX4_isInside 12 = .ok (.aload_n 1, 1) := by decide +kernel
theorem dX4_isInside_13 : decode cX4_isInside 13 = .ok (.iload_n 2, 1) := by decide +kernel
theorem dX4_isInside_14 : decode cX4_isInside 14 = .ok (.invokevirtual 161, 3) := by decide +kernel
theorem dX4_isInside_17 : decode cX4_isInside 17 = .ok (.iconst (-1), 1) := by decide +kernel
theorem dX4_isInside_18 : decode cX4_isInside 18 = .ok (.ixor, 1) := by decide +kernel
theorem dX4_isInside_19 : decode cX4_isInside 19 = .ok (.iand, 1) := by decide +kernel
theorem dX4_isInside_20 : decode cX4_isInside 20 = .ok (.ifCond .eq 5, 3) := by decide +kernel
theorem dX4_isInside_23 : decode cX4_isInside 23 = .ok (.iconst 0, 1) := by decide +kernel
theorem dX4_isInside_24 : decode cX4_isInside 24 = .ok (.ireturn, 1) := by decide +kernel
theorem dX4_isInside_25 : decode cX4_isInside 25 = .ok (.iinc 2 1, 3) := by decide +kernel
theorem dX4_isInside_28 : decode cX4_isInside 28 = .ok (.goto (-26), 3) := by decide +kernel
theorem dX4_isInside_31 : decode cX4_isInside 31 = .ok (.iconst 1, 1) := by decide +kernel
theorem dX4_isInside_32 : decode cX4_isInside 32 = .ok (.ireturn, 1) := by decide +kernel
theorem dX4_settle_0 : decode cX4_settle 0 = .ok (.iconst 0, 1) := by decide +kernel
theorem dX4_settle_1 : decode cX4_settle 1 = .ok (.istore_n 1, 1) := by decide +kernel
theorem dX4_settle_2 : decode cX4_settle 2 = .ok (.iload_n 1, 1) := by decide +kernel
theorem dX4_settle_3 : decode cX4_settle 3 = .ok (.aload_n 0, 1) := by decide +kernel
theorem dX4_settle_4 : decode cX4_settle 4 = .ok (.getfield 35, 3) := by decide +kernel
theorem dX4_settle_7 : decode cX4_settle 7 = .ok (.if_icmp .ge 18, 3) := by decide +kernel
theorem dX4_settle_10 : decode cX4_settle 10 = .ok (.aload_n 0, 1) := by decide +kernel
theorem dX4_settle_11 : decode cX4_settle 11 = .ok (.aload_n 0, 1) := by decide +kernel
theorem dX4_settle_12 : decode cX4_settle 12 = .ok (.iload_n 1, 1) := by decide +kernel
theorem dX4_settle_13 : decode cX4_settle 13 = .ok (.invokevirtual 120, 3) := by decide +kernel
theorem dX4_settle_16 : decode cX4_settle 16 = .ok (.invokevirtual 269, 3) := by decide +kernel
theorem dX4_settle_19 : decode cX4_settle 19 = .ok (.iinc 1 1, 3) := by decide +kernel
theorem dX4_settle_22 : decode cX4_settle 22 = .ok (.goto (-20), 3) := by decide +kernel
theorem dX4_settle_25 : decode cX4_settle 25 = .ok (.aload_n 0, 1) := by decide +kernel
theorem dX4_settle_26 : decode cX4_settle 26 = .ok (.invokevirtual 272, 3) := by decide +kernel
theorem dX4_settle_29 : decode cX4_settle 29 = .ok (.iconst 0, 1) := by decide +kernel
theorem dX4_settle_30 : decode cX4_settle 30 = .ok (.istore_n 1, 1) := by decide +kernel
theorem dX4_settle_31 : decode cX4_settle 31 = .ok (.iload_n 1, 1) := by decide +kernel
theorem dX4_settle_32 : decode cX4_settle 32 = .ok (.aload_n 0, 1) := by decide +kernel
theorem dX4_settle_33 : decode cX4_settle 33 = .ok (.getfield 35, 3) := by decide +kernel
theorem dX4_settle_36 : decode cX4_settle 36 = .ok (.if_icmp .ge 18, 3) := by decide +kernel
theorem dX4_settle_39 : decode cX4_settle 39 = .ok (.aload_n 0, 1) := by decide +kernel
theorem dX4_settle_40 : decode cX4_settle 40 = .ok (.aload_n 0, 1) := by decide +kernel
theorem dX4_settle_41 : decode cX4_settle 41 = .ok (.iload_n 1, 1) := by decide +kernel
theorem dX4_settle_42 : decode cX4_settle 42 = .ok (.invokevirtual 120, 3) := by decide +kernel
theorem dX4_settle_45 : decode cX4_settle 45 = .ok (.invokevirtual 275, 3) := by decide +kernel
theorem dX4_settle_48 : decode cX4_settle 48 = .ok (.iinc 1 1, 3) := by decide +kernel
theorem dX4_settle_51 : decode cX4_settle 51 = .ok (.goto (-20), 3) := by decide +kernel
theorem dX4_settle_54 : decode cX4_settle 54 = .ok (.iconst 0, 1) := by decide +kernel
theorem dX4_settle_55 : decode cX4_settle 55 = .ok (.istore_n 1, 1) := by decide +kernel
theorem dX4_settle_56 : decode cX4_settle 56 = .ok (.iload_n 1, 1) := by decide +kernel
theorem dX4_settle_57 : decode cX4_settle 57 = .ok (.aload_n 0, 1) := by decide +kernel
theorem dX4_settle_58 : decode cX4_settle 58 = .ok (.getfield 39, 3) := by decide +kernel
theorem dX4_settle_61 : decode cX4_settle 61 = .ok (.if_icmp .ge 34, 3) := by decide +kernel
theorem dX4_settle_64 : decode cX4_settle 64 = .ok (.aload_n 0, 1) := by decide +kernel
theorem dX4_settle_65 : decode cX4_settle 65 = .ok (.iload_n 1, 1) := by decide +kernel
theorem dX4_settle_66 : decode cX4_settle 66 = .ok (.invokevirtual 207, 3) := by decide +kernel
theorem dX4_settle_69 : decode cX4_settle 69 = .ok (.astore_n 2, 1) := by decide +kernel
theorem dX4_settle_70 : decode cX4_settle 70 = .ok (.aload_n 2, 1) := by decide +kernel
theorem dX4_settle_71 : decode cX4_settle 71 = .ok (.ifnull 18, 3) := by decide +kernel
theorem dX4_settle_74 : decode cX4_settle 74 = .ok (.aload_n 2, 1) := by decide +kernel
theorem dX4_settle_75 : decode cX4_settle 75 = .ok (.aload_n 0, 1) := by decide +kernel
theorem dX4_settle_76 : decode cX4_settle 76 = .ok (.getfield 10, 3) := by decide +kernel
theorem dX4_settle_79 : decode cX4_settle 79 = .ok (.aload_n 2, 1) := by decide +kernel
theorem dX4_settle_80 : decode cX4_settle 80 = .ok (.getfield 278, 3) := by decide +kernel
theorem dX4_settle_83 : decode cX4_settle 83 = .ok (.invokevirtual 279, 3) := by decide +kernel
theorem dX4_settle_86 : decode cX4_settle 86 = .ok (.putfield 215, 3) := by decide +kernel
theorem dX4_settle_89 : decode cX4_settle 89 = .ok (.iinc 1 1, 3) := by decide +kernel
theorem dX4_settle_92 : decode cX4_settle 92 = .ok (.goto (-36), 3) := by decide +kernel
theorem dX4_settle_95 : decode cX4_settle 95 = .ok (.return_, 1) := by decide +kernel
theorem dX4_settlePlain_0 : decode cX4_settlePlain 0 = .ok (.aload_n 1, 1) := by decide +kernel
theorem dX4_settlePlain_1 : decode cX4_settlePlain 1 = .ok (.ifnull 10, 3) := by decide +kernel
theorem dX4_settlePlain_4 : decode cX4_settlePlain 4 = .ok (.aload_n 1, 1) := by decide +kernel
theorem dX4_settlePlain_5 : decode cX4_settlePlain 5 = .ok (.getfield 282, 3) := by decide +kernel
theorem dX4_settlePlain_8 : decode cX4_settlePlain 8 = .ok (.ifCond .eq 4, 3) := by decide +kernel
theorem dX4_settlePlain_11 : decode cX4_settlePlain 11 = .ok (.return_, 1) := by decide +kernel
theorem dX4_settlePlain_12 : decode cX4_settlePlain 12 = .ok (.aload_n 1, 1) := by decide +kernel
theorem dX4_settlePlain_13 : decode cX4_settlePlain 13 = .ok (.aload_n 0, 1) := by decide +kernel
theorem dX4_settlePlain_14 : decode cX4_settlePlain 14 = .ok (.getfield 19, 3) := by decide +kernel
theorem dX4_settlePlain_17 : decode cX4_settlePlain 17 = .ok (.aload_n 1, 1) := by decide +kernel
theorem dX4_settlePlain_18 : decode cX4_settlePlain 18 = .ok (.getfield 127, 3) := by decide +kernel
theorem dX4_settlePlain_21 : decode cX4_settlePlain 21 = .ok (.aload_n 1, 1) := by decide +kernel
theorem dX4_settlePlain_22 : decode cX4_settlePlain 22 = .ok (.getfield 92, 3) := by decide +kernel
theorem dX4_settlePlain_25 : decode cX4_settlePlain 25 = .ok (.invokevirtual 285, 3) := by decide +kernel
theorem dX4_settlePlain_28 : decode cX4_settlePlain 28 = .ok (.putfield 288, 3) := by decide +kernel
theorem dX4_settlePlain_31 : decode cX4_settlePlain 31 = .ok (.aload_n 1, 1) := by decide +kernel
theorem dX4_settlePlain_32 : decode cX4_settlePlain 32 = .ok (.aload_n 0, 1) := by decide +kernel
theorem dX4_settlePlain_33 : decode cX4_settlePlain 33 = .ok (.getfield 10, 3) := by decide +kernel
theorem dX4_settlePlain_36 : decode cX4_settlePlain 36 = .ok (.aload_n 1, 1) := by decide +kernel
theorem dX4_settlePlain_37 : decode cX4_settlePlain 37 = .ok (.getfield 81, 3) := by decide +kernel
theorem dX4_settlePlain_40 : decode cX4_settlePlain 40 = .ok (.invokevirtual 279, 3) := by decide +kernel
theorem dX4_settlePlain_43 : decode cX4_settlePlain 43 = .ok (.putfield 292, 3) := by decide +kernel
theorem dX4_settlePlain_46 : decode cX4_settlePlain 46 = .ok (.return_, 1) := by decide +kernel
theorem dX4_settleUnder_0 : decode cX4_settleUnder 0 = .ok (.iconst 0, 1) := by decide +kernel
theorem dX4_settleUnder_1 : decode cX4_settleUnder 1 = .ok (.istore_n 1, 1) := by decide +kernel
theorem dX4_settleUnder_2 : decode cX4_settleUnder 2 = .ok (.iload_n 1, 1) := by decide +kernel
theorem dX4_settleUnder_3 : decode cX4_settleUnder 3 = .ok (.aload_n 0, 1) := by decide +kernel
theorem dX4_settleUnder_4 : decode cX4_settleUnder 4 = .ok (.getfield 35, 3) := by decide +kernel
theorem dX4_settleUnder_7 : decode cX4_settleUnder 7 = .ok (.if_icmp .ge 24, 3) := by decide +kernel
theorem dX4_settleUnder_10 : decode cX4_settleUnder 10 = .ok (.aload_n 0, 1) := by decide +kernel
theorem dX4_settleUnder_11 : decode cX4_settleUnder 11 = .ok (.iload_n 1, 1) := by decide +kernel
theorem dX4_settleUnder_12 : decode cX4_settleUnder 12 = .ok (.invokevirtual 120, 3) := by decide +kernel
theorem dX4_settleUnder_15 : decode cX4_settleUnder 15 = .ok (.astore_n 2, 1) := by decide +kernel
theorem dX4_settleUnder_16 : decode cX4_settleUnder 16 = .ok (.aload_n 2, 1) := by decide +kernel
theorem dX4_settleUnder_17 : decode cX4_settleUnder 17 = .ok (.ifnull 8, 3) := by decide +kernel
theorem dX4_settleUnder_20 : decode cX4_settleUnder 20 = .ok (.aload_n 2, 1) := by decide +kernel
theorem dX4_settleUnder_21 : decode cX4_settleUnder 21 = .ok (.iconst 0, 1) := by decide +kernel
theorem dX4_settleUnder_22 : decode cX4_settleUnder 22 = .ok (.putfield 139, 3) := by decide +kernel
theorem dX4_settleUnder_25 : decode cX4_settleUnder 25 = .ok (.iinc 1 1, 3) := by decide +kernel
theorem dX4_settleUnder_28 : decode cX4_settleUnder 28 = .ok (.goto (-26), 3) := by decide +kernel
theorem dX4_settleUnder_31 : decode cX4_settleUnder 31 = .ok (.iconst 0, 1) := by decide +kernel
theorem dX4_settleUnder_32 : decode cX4_settleUnder 32 = .ok (.istore_n 1, 1) := by decide +kernel
theorem dX4_settleUnder_33 : decode cX4_settleUnder 33 = .ok (.iload_n 1, 1) := by decide +kernel
theorem dX4_settleUnder_34 : decode cX4_settleUnder 34 = .ok (.bipush 24, 2) := by decide +kernel
theorem dX4_settleUnder_36 : decode cX4_settleUnder 36 = .ok (.if_icmp .ge 48, 3) := by decide +kernel
theorem dX4_settleUnder_39 : decode cX4_settleUnder 39 = .ok (.iconst 0, 1) := by decide +kernel
theorem dX4_settleUnder_40 : decode cX4_settleUnder 40 = .ok (.istore_n 2, 1) := by decide +kernel
theorem dX4_settleUnder_41 : decode cX4_settleUnder 41 = .ok (.iconst 0, 1) := by decide +kernel
theorem dX4_settleUnder_42 : decode cX4_settleUnder 42 = .ok (.istore_n 3, 1) := by decide +kernel
theorem dX4_settleUnder_43 : decode cX4_settleUnder 43 = .ok (.iload_n 3, 1) := by decide +kernel
theorem dX4_settleUnder_44 : decode cX4_settleUnder 44 = .ok (.aload_n 0, 1) := by decide +kernel
theorem dX4_settleUnder_45 : decode cX4_settleUnder 45 = .ok (.getfield 35, 3) := by decide +kernel
theorem dX4_settleUnder_48 : decode cX4_settleUnder 48 = .ok (.if_icmp .ge 23, 3) := by decide +kernel
theorem dX4_settleUnder_51 : decode cX4_settleUnder 51 = .ok (.aload_n 0, 1) := by decide +kernel
theorem dX4_settleUnder_52 : decode cX4_settleUnder 52 = .ok (.aload_n 0, 1) := by decide +kernel
theorem dX4_settleUnder_53 : decode cX4_settleUnder 53 = .ok (.iload_n 3, 1) := by decide +kernel
theorem dX4_settleUnder_54 : decode cX4_settleUnder 54 = .ok (.invokevirtual 120, 3) := by decide +kernel
theorem dX4_settleUnder_57 : decode cX4_settleUnder 57 = .ok (.invokevirtual 293, 3) := by decide +kernel
theorem dX4_settleUnder_60 : decode cX4_settleUnder 60 = .ok (.ifCond .eq 5, 3) := by decide +kernel
theorem dX4_settleUnder_63 : decode cX4_settleUnder 63 = .ok (.iconst 1, 1) := by decide +kernel
theorem dX4_settleUnder_64 : decode cX4_settleUnder 64 = .ok (.istore_n 2, 1) := by decide +kernel
theorem dX4_settleUnder_65 : decode cX4_settleUnder 65 = .ok (.iinc 3 1, 3) := by decide +kernel
theorem dX4_settleUnder_68 : decode cX4_settleUnder 68 = .ok (.goto (-25), 3) := by decide +kernel
theorem dX4_settleUnder_71 : decode cX4_settleUnder 71 = .ok (.iload_n 2, 1) := by decide +kernel
theorem dX4_settleUnder_72 : decode cX4_settleUnder 72 = .ok (.ifCond .ne 6, 3) := by decide +kernel
theorem dX4_settleUnder_75 : decode cX4_settleUnder 75 = .ok (.goto 9, 3) := by decide +kernel
theorem dX4_settleUnder_78 : decode cX4_settleUnder 78 = .ok (.iinc 1 1, 3) := by decide +kernel
theorem dX4_settleUnder_81 : decode cX4_settleUnder 81 = .ok (.goto (-48), 3) := by decide +kernel
theorem dX4_settleUnder_84 : decode cX4_settleUnder 84 = .ok (.return_, 1) := by decide +kernel
theorem dX4_widenUnder_0 : decode cX4_widenUnder 0 = .ok (.aload_n 1, 1) := by decide +kernel
theorem dX4_widenUnder_1 : decode cX4_widenUnder 1 = .ok (.ifnonnull 5, 3) := by decide +kernel
theorem dX4_widenUnder_4 : decode cX4_widenUnder 4 = .ok (.iconst 0, 1) := by decide +kernel
theorem dX4_widenUnder_5 : decode cX4_widenUnder 5 = .ok (.ireturn, 1) := by decide +kernel
theorem dX4_widenUnder_6 : decode cX4_widenUnder 6 = .ok (.aload_n 1, 1) := by decide +kernel
theorem dX4_widenUnder_7 : decode cX4_widenUnder 7 = .ok (.getfield 139, 3) := by decide +kernel
theorem dX4_widenUnder_10 : decode cX4_widenUnder 10 = .ok (.istore_n 2, 1) := by decide +kernel
theorem dX4_widenUnder_11 : decode cX4_widenUnder 11 = .ok (.iconst 0, 1) := by decide +kernel
theorem dX4_widenUnder_12 : decode cX4_widenUnder 12 = .ok (.istore_n 3, 1) := by decide +kernel
theorem dX4_widenUnder_13 : decode cX4_widenUnder 13 = .ok (.iload_n 3, 1) := by decide +kernel
theorem dX4_widenUnder_14 : decode cX4_widenUnder 14 = .ok (.iconst 4, 1) := by decide +kernel
theorem dX4_widenUnder_15 : decode cX4_widenUnder 15 = .ok (.if_icmp .ge 48, 3) := by decide +kernel
theorem dX4_widenUnder_18 : decode cX4_widenUnder 18 = .ok (.aload_n 0, 1) := by decide +kernel
theorem dX4_widenUnder_19 : decode cX4_widenUnder 19 = .ok (.aload_n 1, 1) := by decide +kernel
theorem dX4_widenUnder_20 : decode cX4_widenUnder 20 = .ok (.iload_n 3, 1) := by decide +kernel
theorem dX4_widenUnder_21 : decode cX4_widenUnder 21 = .ok (.invokevirtual 259, 3) := by decide +kernel
theorem dX4_widenUnder_24 : decode cX4_widenUnder 24 = .ok (.invokevirtual 133, 3) := by decide +kernel
theorem dX4_widenUnder_27 : decode cX4_widenUnder 27 = .ok (.astore 4, 2) := by decide +kernel
theorem dX4_widenUnder_29 : decode cX4_widenUnder 29 = .ok (.aload 4, 2) := by decide +kernel
theorem dX4_widenUnder_31 : decode cX4_widenUnder 31 = .ok (.ifnull 26, 3) := by decide +kernel
theorem dX4_widenUnder_34 : decode cX4_widenUnder 34 = .ok (.aload_n 1, 1) := by decide +kernel
theorem dX4_widenUnder_35 : decode cX4_widenUnder 35 = .ok (.dup, 1) := by decide +kernel
theorem dX4_widenUnder_36 : decode cX4_widenUnder 36 = .ok (.getfield 139, 3) := by decide +kernel
theorem dX4_widenUnder_39 : decode cX4_widenUnder 39 = .ok (.aload 4, 2) := by decide +kernel
theorem dX4_widenUnder_41 : decode cX4_widenUnder 41 = .ok (.getfield 99, 3) := by decide +kernel
theorem dX4_widenUnder_44 : decode cX4_widenUnder 44 = .ok (.invokestatic 105, 3) := by decide +kernel
theorem dX4_widenUnder_47 : decode cX4_widenUnder 47 = .ok (.aload 4, 2) := by decide +kernel
theorem dX4_widenUnder_49 : decode cX4_widenUnder 49 = .ok (.getfield 139, 3) := by decide +kernel
theorem dX4_widenUnder_52 : decode cX4_widenUnder 52 = .ok (.ior, 1) := by decide +kernel
theorem dX4_widenUnder_53 : decode cX4_widenUnder 53 = .ok (.ior, 1) := by decide +kernel
theorem dX4_widenUnder_54 : decode cX4_widenUnder 54 = .ok (.putfield 139, 3) := by decide +kernel
theorem dX4_widenUnder_57 : decode cX4_widenUnder 57 = .ok (.iinc 3 1, 3) := by decide +kernel
theorem dX4_widenUnder_60 : decode cX4_widenUnder 60 = .ok (.goto (-47), 3) := by decide +kernel
theorem dX4_widenUnder_63 : decode cX4_widenUnder 63 = .ok (.aload_n 1, 1) := by decide +kernel
theorem dX4_widenUnder_64 : decode cX4_widenUnder 64 = .ok (.getfield 139, 3) := by decide +kernel
theorem dX4_widenUnder_67 : decode cX4_widenUnder 67 = .ok (.iload_n 2, 1) := by decide +kernel
theorem dX4_widenUnder_68 : decode cX4_widenUnder 68 = .ok (.if_icmp .eq 7, 3) := by decide +kernel
theorem dX4_widenUnder_71 : decode cX4_widenUnder 71 = .ok (.iconst 1, 1) := by decide +kernel
theorem dX4_widenUnder_72 : decode cX4_widenUnder 72 = .ok (.goto 4, 3) := by decide +kernel
theorem dX4_widenUnder_75 : decode cX4_widenUnder 75 = .ok (.iconst 0, 1) := by decide +kernel
theorem dX4_widenUnder_76 : decode cX4_widenUnder 76 = .ok (.ireturn, 1) := by decide +kernel
theorem dX4_settleJoined_0 : decode cX4_settleJoined 0 = .ok (.aload_n 1, 1) := by decide +kernel
theorem dX4_settleJoined_1 : decode cX4_settleJoined 1 = .ok (.ifnull 11, 3) := by decide +kernel
theorem dX4_settleJoined_4 : decode cX4_settleJoined 4 = .ok (.aload_n 1, 1) := by decide +kernel
theorem dX4_settleJoined_5 : decode cX4_settleJoined 5 = .ok (.getfield 282, 3) := by decide +kernel
theorem dX4_settleJoined_8 : decode cX4_settleJoined 8 = .ok (.iconst 1, 1) := by decide +kernel
theorem dX4_settleJoined_9 : decode cX4_settleJoined 9 = .ok (.if_icmp .eq 4, 3) := by decide +kernel
theorem dX4_settleJoined_12 : decode cX4_settleJoined 12 = .ok (.return_, 1) := by decide +kernel
theorem dX4_settleJoined_13 : decode cX4_settleJoined 13 = .ok (.aload_n 1, 1) := by decide +kernel
theorem dX4_settleJoined_14 : decode cX4_settleJoined 14 = .ok (.invokevirtual 297, 3) := by decide +kernel
theorem dX4_settleJoined_17 : decode cX4_settleJoined 17 = .ok (.iconst 0, 1) := by decide +kernel
theorem dX4_settleJoined_18 : decode cX4_settleJoined 18 = .ok (.istore_n 2, 1) := by decide +kernel
theorem dX4_settleJoined_19 : decode cX4_settleJoined 19 = .ok (.iload_n 2, 1) := by decide +kernel
theorem dX4_settleJoined_20 : decode cX4_settleJoined 20 = .ok (.aload_n 0, 1) := by decide +kernel
theorem dX4_settleJoined_21 : decode cX4_settleJoined 21 = .ok (.getfield 35, 3) := by decide +kernel
theorem dX4_settleJoined_24 : decode cX4_settleJoined 24 = .ok (.if_icmp .ge 43, 3) := by decide +kernel
theorem dX4_settleJoined_27 : decode cX4_settleJoined 27 = .ok (.aload_n 0, 1) := by decide +kernel
theorem dX4_settleJoined_28 : decode cX4_settleJoined 28 = .ok (.iload_n 2, 1) := by decide +kernel
theorem dX4_settleJoined_29 : decode cX4_settleJoined 29 = .ok (.invokevirtual 120, 3) := by decide +kernel
theorem dX4_settleJoined_32 : decode cX4_settleJoined 32 = .ok (.astore_n 3, 1) := by decide +kernel
theorem dX4_settleJoined_33 : decode cX4_settleJoined 33 = .ok (.aload_n 3, 1) := by decide +kernel
theorem dX4_settleJoined_34 : decode cX4_settleJoined 34 = .ok (.ifnull 27, 3) := by decide +kernel
theorem dX4_settleJoined_37 : decode cX4_settleJoined 37 = .ok (.aload_n 3, 1) := by decide +kernel
theorem dX4_settleJoined_38 : decode cX4_settleJoined 38 = .ok (.getfield 282, 3) := by decide +kernel
theorem dX4_settleJoined_41 : decode cX4_settleJoined 41 = .ok (.ifCond .ne 20, 3) := by decide +kernel
theorem dX4_settleJoined_44 : decode cX4_settleJoined 44 = .ok (.aload_n 1, 1) := by decide +kernel
theorem dX4_settleJoined_45 : decode cX4_settleJoined 45 = .ok (.getfield 139, 3) := by decide +kernel
theorem dX4_settleJoined_48 : decode cX4_settleJoined 48 = .ok (.iload_n 2, 1) := by decide +kernel
theorem dX4_settleJoined_49 : decode cX4_settleJoined 49 = .ok (.invokestatic 105, 3) := by decide +kernel
theorem dX4_settleJoined_52 : decode cX4_settleJoined 52 = .ok (.iand, 1) := by decide +kernel
theorem dX4_settleJoined_53 : decode cX4_settleJoined 53 = .ok (.ifCond .eq 8, 3) := by decide +kernel
theorem dX4_settleJoined_56 : decode cX4_settleJoined 56 = .ok (.aload_n 1, 1) := by decide +kernel
theorem dX4_settleJoined_57 : decode cX4_settleJoined 57 = .ok (.aload_n 3, 1) := by decide +kernel
theorem dX4_settleJoined_58 : decode cX4_settleJoined 58 = .ok (.invokevirtual 300, 3) := by decide +kernel
theorem dX4_settleJoined_61 : decode cX4_settleJoined 61 = .ok (.iinc 2 1, 3) := by decide +kernel
theorem dX4_settleJoined_64 : decode cX4_settleJoined 64 = .ok (.goto (-45), 3) := by decide +kernel
theorem dX4_settleJoined_67 : decode cX4_settleJoined 67 = .ok (.aload_n 1, 1) := by decide +kernel
theorem dX4_settleJoined_68 : decode cX4_settleJoined 68 = .ok (.aload_n 0, 1) := by decide +kernel
theorem dX4_settleJoined_69 : decode cX4_settleJoined 69 = .ok (.getfield 10, 3) := by decide +kernel
theorem dX4_settleJoined_72 : decode cX4_settleJoined 72 = .ok (.aload_n 1, 1) := by decide +kernel
theorem dX4_settleJoined_73 : decode cX4_settleJoined 73 = .ok (.getfield 81, 3) := by decide +kernel
theorem dX4_settleJoined_76 : decode cX4_settleJoined 76 = .ok (.invokevirtual 279, 3) := by decide +kernel
theorem dX4_settleJoined_79 : decode cX4_settleJoined 79 = .ok (.putfield 292, 3) := by decide +kernel
theorem dX4_settleJoined_82 : decode cX4_settleJoined 82 = .ok (.return_, 1) := by decide +kernel
theorem dX4_kindCount_0 : decode cX4_kindCount 0 = .ok (.iconst 0, 1) := by decide +kernel
theorem dX4_kindCount_1 : decode cX4_kindCount 1 = .ok (.istore_n 2, 1) := by decide +kernel
theorem dX4_kindCount_2 : decode cX4_kindCount 2 = .ok (.iconst 0, 1) := by decide +kernel
theorem dX4_kindCount_3 : decode cX4_kindCount 3 = .ok (.istore_n 3, 1) := by decide +kernel
theorem dX4_kindCount_4 : decode cX4_kindCount 4 = .ok (.iload_n 3, 1) := by decide +kernel
theorem dX4_kindCount_5 : decode cX4_kindCount 5 = .ok (.aload_n 0, 1) := by decide +kernel
theorem dX4_kindCount_6 : decode cX4_kindCount 6 = .ok (.getfield 35, 3) := by decide +kernel
theorem dX4_kindCount_9 : decode cX4_kindCount 9 = .ok (.if_icmp .ge 33, 3) := by decide +kernel
theorem dX4_kindCount_12 : decode cX4_kindCount 12 = .ok (.aload_n 0, 1) := by decide +kernel
theorem dX4_kindCount_13 : decode cX4_kindCount 13 = .ok (.iload_n 3, 1) := by decide +kernel
theorem dX4_kindCount_14 : decode cX4_kindCount 14 = .ok (.invokevirtual 120, 3) := by decide +kernel
theorem dX4_kindCount_17 : decode cX4_kindCount 17 = .ok (.astore 4, 2) := by decide +kernel
theorem dX4_kindCount_19 : decode cX4_kindCount 19 = .ok (.aload 4, 2) := by decide +kernel
theorem dX4_kindCount_21 : decode cX4_kindCount 21 = .ok (.ifnull 15, 3) := by decide +kernel
theorem dX4_kindCount_24 : decode cX4_kindCount 24 = .ok (.aload 4, 2) := by decide +kernel
theorem dX4_kindCount_26 : decode cX4_kindCount 26 = .ok (.invokevirtual 124, 3) := by decide +kernel
theorem dX4_kindCount_29 : decode cX4_kindCount 29 = .ok (.iload_n 1, 1) := by decide +kernel
theorem dX4_kindCount_30 : decode cX4_kindCount 30 = .ok (.if_icmp .ne 6, 3) := by decide +kernel
theorem dX4_kindCount_33 : decode cX4_kindCount 33 = .ok (.iinc 2 1, 3) := by decide +kernel
theorem dX4_kindCount_36 : decode cX4_kindCount 36 = .ok (.iinc 3 1, 3) := by decide +kernel
theorem dX4_kindCount_39 : decode cX4_kindCount 39 = .ok (.goto (-35), 3) := by decide +kernel
theorem dX4_kindCount_42 : decode cX4_kindCount 42 = .ok (.iload_n 2, 1) := by decide +kernel
theorem dX4_kindCount_43 : decode cX4_kindCount 43 = .ok (.ireturn, 1) := by decide +kernel
theorem dX4_doubtedCount_0 : decode cX4_doubtedCount 0 = .ok (.iconst 0, 1) := by decide +kernel
theorem dX4_doubtedCount_1 : decode cX4_doubtedCount 1 = .ok (.istore_n 1, 1) := by decide +kernel
theorem dX4_doubtedCount_2 : decode cX4_doubtedCount 2 = .ok (.iconst 0, 1) := by decide +kernel
theorem dX4_doubtedCount_3 : decode cX4_doubtedCount 3 = .ok (.istore_n 2, 1) := by decide +kernel
theorem dX4_doubtedCount_4 : decode cX4_doubtedCount 4 = .ok (.iload_n 2, 1) := by decide +kernel
theorem dX4_doubtedCount_5 : decode cX4_doubtedCount 5 = .ok (.aload_n 0, 1) := by decide +kernel
theorem dX4_doubtedCount_6 : decode cX4_doubtedCount 6 = .ok (.getfield 35, 3) := by decide +kernel
theorem dX4_doubtedCount_9 : decode cX4_doubtedCount 9 = .ok (.if_icmp .ge 29, 3) := by decide +kernel
theorem dX4_doubtedCount_12 : decode cX4_doubtedCount 12 = .ok (.aload_n 0, 1) := by decide +kernel
theorem dX4_doubtedCount_13 : decode cX4_doubtedCount 13 = .ok (.iload_n 2, 1) := by decide +kernel
theorem dX4_doubtedCount_14 : decode cX4_doubtedCount 14 = .ok (.invokevirtual 120, 3) := by decide +kernel
theorem dX4_doubtedCount_17 : decode cX4_doubtedCount 17 = .ok (.astore_n 3, 1) := by decide +kernel
theorem dX4_doubtedCount_18 : decode cX4_doubtedCount 18 = .ok (.aload_n 3, 1) := by decide +kernel
theorem dX4_doubtedCount_19 : decode cX4_doubtedCount 19 = .ok (.ifnull 13, 3) := by decide +kernel
theorem dX4_doubtedCount_22 : decode cX4_doubtedCount 22 = .ok (.aload_n 3, 1) := by decide +kernel
theorem dX4_doubtedCount_23 : decode cX4_doubtedCount 23 = .ok (.invokevirtual 129, 3) := by decide +kernel
theorem dX4_doubtedCount_26 : decode cX4_doubtedCount 26 = .ok (.ifCond .eq 6, 3) := by decide +kernel
theorem dX4_doubtedCount_29 : decode cX4_doubtedCount 29 = .ok (.iinc 1 1, 3) := by decide +kernel
theorem dX4_doubtedCount_32 : decode cX4_doubtedCount 32 = .ok (.iinc 2 1, 3) := by decide +kernel
theorem dX4_doubtedCount_35 : decode cX4_doubtedCount 35 = .ok (.goto (-31), 3) := by decide +kernel
theorem dX4_doubtedCount_38 : decode cX4_doubtedCount 38 = .ok (.iload_n 1, 1) := by decide +kernel
theorem dX4_doubtedCount_39 : decode cX4_doubtedCount 39 = .ok (.ireturn, 1) := by decide +kernel
theorem dX4_quarrelCount_0 : decode cX4_quarrelCount 0 = .ok (.iconst 0, 1) := by decide +kernel
theorem dX4_quarrelCount_1 : decode cX4_quarrelCount 1 = .ok (.istore_n 1, 1) := by decide +kernel
theorem dX4_quarrelCount_2 : decode cX4_quarrelCount 2 = .ok (.iconst 0, 1) := by decide +kernel
theorem dX4_quarrelCount_3 : decode cX4_quarrelCount 3 = .ok (.istore_n 2, 1) := by decide +kernel
theorem dX4_quarrelCount_4 : decode cX4_quarrelCount 4 = .ok (.iload_n 2, 1) := by decide +kernel
theorem dX4_quarrelCount_5 : decode cX4_quarrelCount 5 = .ok (.aload_n 0, 1) := by decide +kernel
theorem dX4_quarrelCount_6 : decode cX4_quarrelCount 6 = .ok (.getfield 35, 3) := by decide +kernel
theorem dX4_quarrelCount_9 : decode cX4_quarrelCount 9 = .ok (.if_icmp .ge 47, 3) := by decide +kernel
theorem dX4_quarrelCount_12 : decode cX4_quarrelCount 12 = .ok (.iload_n 2, 1) := by decide +kernel
theorem dX4_quarrelCount_13 : decode cX4_quarrelCount 13 = .ok (.iconst 1, 1) := by decide +kernel
theorem dX4_quarrelCount_14 : decode cX4_quarrelCount 14 = .ok (.iadd, 1) := by decide +kernel
theorem dX4_quarrelCount_15 : decode cX4_quarrelCount 15 = .ok (.istore_n 3, 1) := by decide +kernel
theorem dX4_quarrelCount_16 : decode cX4_quarrelCount 16 = .ok (.iload_n 3, 1) := by decide +kernel
theorem dX4_quarrelCount_17 : decode cX4_quarrelCount 17 = .ok (.aload_n 0, 1) := by decide +kernel
theorem dX4_quarrelCount_18 : decode cX4_quarrelCount 18 = .ok (.getfield 35, 3) := by decide +kernel
theorem dX4_quarrelCount_21 : decode cX4_quarrelCount 21 = .ok (.if_icmp .ge 29, 3) := by decide +kernel
theorem dX4_quarrelCount_24 : decode cX4_quarrelCount 24 = .ok (.aload_n 0, 1) := by decide +kernel
theorem dX4_quarrelCount_25 : decode cX4_quarrelCount 25 = .ok (.aload_n 0, 1) := by decide +kernel
theorem dX4_quarrelCount_26 : decode cX4_quarrelCount 26 = .ok (.iload_n 2, 1) := by decide +kernel
theorem dX4_quarrelCount_27 : decode cX4_quarrelCount 27 = .ok (.invokevirtual 120, 3) := by decide +kernel
theorem dX4_quarrelCount_30 : decode cX4_quarrelCount 30 = .ok (.aload_n 0, 1) := by decide +kernel
theorem dX4_quarrelCount_31 : decode cX4_quarrelCount 31 = .ok (.iload_n 3, 1) := by decide +kernel
theorem dX4_quarrelCount_32 : decode cX4_quarrelCount 32 = .ok (.invokevirtual 120, 3) := by decide +kernel
theorem dX4_quarrelCount_35 : decode cX4_quarrelCount 35 = .ok (.invokevirtual 194, 3) := by decide +kernel
theorem dX4_quarrelCount_38 : decode cX4_quarrelCount 38 = .ok (.ifCond .eq 6, 3) := by decide +kernel
theorem dX4_quarrelCount_41 : decode cX4_quarrelCount 41 = .ok (.iinc 1 1, 3) := by decide +kernel
theorem dX4_quarrelCount_44 : decode cX4_quarrelCount 44 = .ok (.iinc 3 1, 3) := by decide +kernel
theorem dX4_quarrelCount_47 : decode cX4_quarrelCount 47 = .ok (.goto (-31), 3) := by decide +kernel
theorem dX4_quarrelCount_50 : decode cX4_quarrelCount 50 = .ok (.iinc 2 1, 3) := by decide +kernel
theorem dX4_quarrelCount_53 : decode cX4_quarrelCount 53 = .ok (.goto (-49), 3) := by decide +kernel
theorem dX4_quarrelCount_56 : decode cX4_quarrelCount 56 = .ok (.iload_n 1, 1) := by decide +kernel
theorem dX4_quarrelCount_57 : decode cX4_quarrelCount 57 = .ok (.ireturn, 1) := by decide +kernel
theorem dX4_areQuarrelling_0 : decode cX4_areQuarrelling 0 = .ok (.aload_n 1, 1) := by decide +kernel
theorem dX4_areQuarrelling_1 : decode cX4_areQuarrelling 1 = .ok (.ifnull 32, 3) := by decide +kernel
theorem dX4_areQuarrelling_4 : decode cX4_areQuarrelling 4 = .ok (.aload_n 2, 1) := by decide +kernel
theorem dX4_areQuarrelling_5 : decode cX4_areQuarrelling 5 = .ok (.ifnull 28, 3) := by decide +kernel
theorem dX4_areQuarrelling_8 : decode cX4_areQuarrelling 8 = .ok (.aload_n 1, 1) := by decide +kernel
theorem dX4_areQuarrelling_9 : decode cX4_areQuarrelling 9 = .ok (.invokevirtual 124, 3) := by decide +kernel
theorem dX4_areQuarrelling_12 : decode cX4_areQuarrelling 12 = .ok (.ifCond .ne 21, 3) := by decide +kernel
theorem dX4_areQuarrelling_15 : decode cX4_areQuarrelling 15 = .ok (.aload_n 2, 1) := by decide +kernel
theorem dX4_areQuarrelling_16 : decode cX4_areQuarrelling 16 = .ok (.invokevirtual 124, 3) := by decide +kernel
theorem dX4_areQuarrelling_19 : decode cX4_areQuarrelling 19 = .ok (.ifCond .ne 14, 3) := by decide +kernel
theorem dX4_areQuarrelling_22 : decode cX4_areQuarrelling 22 = .ok (.aload_n 1, 1) := by decide +kernel
theorem dX4_areQuarrelling_23 : decode cX4_areQuarrelling 23 = .ok (.getfield 158, 3) := by decide +kernel
theorem dX4_areQuarrelling_26 : decode cX4_areQuarrelling 26 = .ok (.aload_n 2, 1) := by decide +kernel
theorem dX4_areQuarrelling_27 : decode cX4_areQuarrelling 27 = .ok (.getfield 158, 3) := by decide +kernel
theorem dX4_areQuarrelling_30 : decode cX4_areQuarrelling 30 = .ok (.if_icmp .ne 5, 3) := by decide +kernel
theorem dX4_areQuarrelling_33 : decode cX4_areQuarrelling 33 = .ok (.iconst 0, 1) := by decide +kernel
theorem dX4_areQuarrelling_34 : decode cX4_areQuarrelling 34 = .ok (.ireturn, 1) := by decide +kernel
theorem dX4_areQuarrelling_35 : decode cX4_areQuarrelling 35 = .ok (.iconst 0, 1) := by decide +kernel
theorem dX4_areQuarrelling_36 : decode cX4_areQuarrelling 36 = .ok (.istore_n 3, 1) := by decide +kernel
theorem dX4_areQuarrelling_37 : decode cX4_areQuarrelling 37 = .ok (.iload_n 3, 1) := by decide +kernel
theorem dX4_areQuarrelling_38 : decode cX4_areQuarrelling 38 = .ok (.iconst 3, 1) := by decide +kernel
theorem dX4_areQuarrelling_39 : decode cX4_areQuarrelling 39 = .ok (.if_icmp .ge 25, 3) := by decide +kernel
theorem dX4_areQuarrelling_42 : decode cX4_areQuarrelling 42 = .ok (.aload_n 1, 1) := by decide +kernel
theorem dX4_areQuarrelling_43 : decode cX4_areQuarrelling 43 = .ok (.iload_n 3, 1) := by decide +kernel
theorem dX4_areQuarrelling_44 : decode cX4_areQuarrelling 44 = .ok (.invokevirtual 161, 3) := by decide +kernel
theorem dX4_areQuarrelling_47 : decode cX4_areQuarrelling 47 = .ok (.aload_n 2, 1) := by decide +kernel
theorem dX4_areQuarrelling_48 : decode cX4_areQuarrelling 48 = .ok (.iload_n 3, 1) := by decide +kernel
theorem dX4_areQuarrelling_49 : decode cX4_areQuarrelling 49 = .ok (.invokevirtual 161, 3) := by decide +kernel
theorem dX4_areQuarrelling_52 : decode cX4_areQuarrelling 52 = .ok (.iand, 1) := by decide +kernel
theorem dX4_areQuarrelling_53 : decode cX4_areQuarrelling 53 = .ok (.ifCond .ne 5, 3) := by decide +kernel
theorem dX4_areQuarrelling_56 : decode cX4_areQuarrelling 56 = .ok (.iconst 0, 1) := by decide +kernel
theorem dX4_areQuarrelling_57 : decode cX4_areQuarrelling 57 = .ok (.ireturn, 1) := by decide +kernel
theorem dX4_areQuarrelling_58 : decode cX4_areQuarrelling 58 = .ok (.iinc 3 1, 3) := by decide +kernel
theorem dX4_areQuarrelling_61 : decode cX4_areQuarrelling 61 = .ok (.goto (-24), 3) := by decide +kernel
theorem dX4_areQuarrelling_64 : decode cX4_areQuarrelling 64 = .ok (.aload_n 1, 1) := by decide +kernel
theorem dX4_areQuarrelling_65 : decode cX4_areQuarrelling 65 = .ok (.getfield 292, 3) := by decide +kernel
theorem dX4_areQuarrelling_68 : decode cX4_areQuarrelling 68 = .ok (.aload_n 2, 1) := by decide +kernel
theorem dX4_areQuarrelling_69 : decode cX4_areQuarrelling 69 = .ok (.getfield 292, 3) := by decide +kernel
theorem dX4_areQuarrelling_72 : decode cX4_areQuarrelling 72 = .ok (.invokestatic 303, 3) := by decide +kernel
theorem dX4_areQuarrelling_75 : decode cX4_areQuarrelling 75 = .ok (.aload_n 0, 1) := by decide +kernel
theorem dX4_areQuarrelling_76 : decode cX4_areQuarrelling 76 = .ok (.getfield 42, 3) := by decide +kernel
theorem dX4_areQuarrelling_79 : decode cX4_areQuarrelling 79 = .ok (.if_icmp .gt 7, 3) := by decide +kernel
theorem dX4_areQuarrelling_82 : decode cX4_areQuarrelling 82 = .ok (.iconst 1, 1) := by decide +kernel
theorem dX4_areQuarrelling_83 : decode cX4_areQuarrelling 83 = .ok (.goto 4, 3) := by decide +kernel
theorem dX4_areQuarrelling_86 : decode cX4_areQuarrelling 86 = .ok (.iconst 0, 1) := by decide +kernel
theorem dX4_areQuarrelling_87 : decode cX4_areQuarrelling 87 = .ok (.ireturn, 1) := by decide +kernel
theorem dX4_quarrelPart_0 : decode cX4_quarrelPart 0 = .ok (.aload_n 0, 1) := by decide +kernel
theorem dX4_quarrelPart_1 : decode cX4_quarrelPart 1 = .ok (.iload_n 1, 1) := by decide +kernel
theorem dX4_quarrelPart_2 : decode cX4_quarrelPart 2 = .ok (.invokevirtual 120, 3) := by decide +kernel
theorem dX4_quarrelPart_5 : decode cX4_quarrelPart 5 = .ok (.astore 4, 2) := by decide +kernel
theorem dX4_quarrelPart_7 : decode cX4_quarrelPart 7 = .ok (.aload_n 0, 1) := by decide +kernel
theorem dX4_quarrelPart_8 : decode cX4_quarrelPart 8 = .ok (.iload_n 2, 1) := by decide +kernel
theorem dX4_quarrelPart_9 : decode cX4_quarrelPart 9 = .ok (.invokevirtual 120, 3) := by decide +kernel
theorem dX4_quarrelPart_12 : decode cX4_quarrelPart 12 = .ok (.astore 5, 2) := by decide +kernel
theorem dX4_quarrelPart_14 : decode cX4_quarrelPart 14 = .ok (.aload 4, 2) := by decide +kernel
theorem dX4_quarrelPart_16 : decode cX4_quarrelPart 16 = .ok (.ifnull 8, 3) := by decide +kernel
theorem dX4_quarrelPart_19 : decode cX4_quarrelPart 19 = .ok (.aload 5, 2) := by decide +kernel
theorem dX4_quarrelPart_21 : decode cX4_quarrelPart 21 = .ok (.ifnonnull 5, 3) := by decide +kernel
theorem dX4_quarrelPart_24 : decode cX4_quarrelPart 24 = .ok (.iconst (-1), 1) := by decide +kernel
theorem dX4_quarrelPart_25 : decode cX4_quarrelPart 25 = .ok (.ireturn, 1) := by decide +kernel
theorem dX4_quarrelPart_26 : decode cX4_quarrelPart 26 = .ok (.iload_n 3, 1) := by decide +kernel
theorem dX4_quarrelPart_27 : decode cX4_quarrelPart 27 = .ok (.ifCond .ne 7, 3) := by decide +kernel
theorem dX4_quarrelPart_30 : decode cX4_quarrelPart 30 = .ok (.iload_n 1, 1) := by decide +kernel
theorem dX4_quarrelPart_31 : decode cX4_quarrelPart 31 = .ok (.goto 32, 3) := by decide +kernel
theorem dX4_quarrelPart_34 : decode cX4_quarrelPart 34 = .ok (.iload_n 3, 1) := by decide +kernel
theorem dX4_quarrelPart_35 : decode cX4_quarrelPart 35 = .ok (.iconst 1, 1) := by decide +kernel
theorem dX4_quarrelPart_36 : decode cX4_quarrelPart 36 = .ok (.if_icmp .ne 7, 3) := by decide +kernel
theorem dX4_quarrelPart_39 : decode cX4_quarrelPart 39 = .ok (.iload_n 2, 1) := by decide +kernel
theorem dX4_quarrelPart_40 : decode cX4_quarrelPart 40 = .ok (.goto 23, 3) := by decide +kernel
theorem dX4_quarrelPart_43 : decode cX4_quarrelPart 43 = .ok (.aload 4, 2) := by decide +kernel
theorem dX4_quarrelPart_45 : decode cX4_quarrelPart 45 = .ok (.iload_n 3, 1) := by decide +kernel
theorem dX4_quarrelPart_46 : decode cX4_quarrelPart 46 = .ok (.iconst 2, 1) := by decide +kernel
theorem dX4_quarrelPart_47 : decode cX4_quarrelPart 47 = .ok (.isub, 1) := by decide +kernel
theorem dX4_quarrelPart_48 : decode cX4_quarrelPart 48 = .ok (.invokevirtual 161, 3) := by decide +kernel
theorem dX4_quarrelPart_51 : decode cX4_quarrelPart 51 = .ok (.aload 5, 2) := by decide +kernel
theorem dX4_quarrelPart_53 : decode cX4_quarrelPart 53 = .ok (.iload_n 3, 1) := by decide +kernel
theorem dX4_quarrelPart_54 : decode cX4_quarrelPart 54 = .ok (.iconst 2, 1) := by decide +kernel
theorem dX4_quarrelPart_55 : decode cX4_quarrelPart 55 = .ok (.isub, 1) := by decide +kernel
theorem dX4_quarrelPart_56 : decode cX4_quarrelPart 56 = .ok (.invokevirtual 161, 3) := by decide +kernel
theorem dX4_quarrelPart_59 : decode cX4_quarrelPart 59 = .ok (.iand, 1) := by decide +kernel
theorem dX4_quarrelPart_60 : decode cX4_quarrelPart 60 = .ok (.invokestatic 307, 3) := by decide +kernel
theorem dX4_quarrelPart_63 : decode cX4_quarrelPart 63 = .ok (.ireturn, 1) := by decide +kernel
theorem dX4_isFit_0 : decode cX4_isFit 0 = .ok (.aload_n 1, 1) := by decide +kernel
theorem dX4_isFit_1 : decode cX4_isFit 1 = .ok (.invokevirtual 136, 3) := by decide +kernel
theorem dX4_isFit_4 : decode cX4_isFit 4 = .ok (.ifCond .eq 5, 3) := by decide +kernel
theorem dX4_isFit_7 : decode cX4_isFit 7 = .ok (.iconst 0, 1) := by decide +kernel
theorem dX4_isFit_8 : decode cX4_isFit 8 = .ok (.ireturn, 1) := by decide +kernel
theorem dX4_isFit_9 : decode cX4_isFit 9 = .ok (.iconst 0, 1) := by decide +kernel
theorem dX4_isFit_10 : decode cX4_isFit 10 = .ok (.istore_n 2, 1) := by decide +kernel
theorem dX4_isFit_11 : decode cX4_isFit 11 = .ok (.iload_n 2, 1) := by decide +kernel
theorem dX4_isFit_12 : decode cX4_isFit 12 = .ok (.iconst 3, 1) := by decide +kernel
theorem dX4_isFit_13 : decode cX4_isFit 13 = .ok (.if_icmp .ge 39, 3) := by decide +kernel
theorem dX4_isFit_16 : decode cX4_isFit 16 = .ok (.aload_n 0, 1) := by decide +kernel
theorem dX4_isFit_17 : decode cX4_isFit 17 = .ok (.iload_n 2, 1) := by decide +kernel
theorem dX4_isFit_18 : decode cX4_isFit 18 = .ok (.invokevirtual 310, 3) := by decide +kernel
theorem dX4_isFit_21 : decode cX4_isFit 21 = .ok (.istore_n 3, 1) := by decide +kernel
theorem dX4_isFit_22 : decode cX4_isFit 22 = .ok (.aload_n 1, 1) := by decide +kernel
theorem dX4_isFit_23 : decode cX4_isFit 23 = .ok (.iload_n 2, 1) := by decide +kernel
theorem dX4_isFit_24 : decode cX4_isFit 24 = .ok (.invokevirtual 161, 3) := by decide +kernel
theorem dX4_isFit_27 : decode cX4_isFit 27 = .ok (.ifCond .eq 17, 3) := by decide +kernel
theorem dX4_isFit_30 : decode cX4_isFit 30 = .ok (.iload_n 3, 1) := by decide +kernel
theorem dX4_isFit_31 : decode cX4_isFit 31 = .ok (.iconst (-1), 1) := by decide +kernel
theorem dX4_isFit_32 : decode cX4_isFit 32 = .ok (.if_icmp .eq 14, 3) := by decide +kernel
theorem dX4_isFit_35 : decode cX4_isFit 35 = .ok (.aload_n 1, 1) := by decide +kernel
theorem dX4_isFit_36 : decode cX4_isFit 36 = .ok (.iload_n 2, 1) := by decide +kernel
theorem dX4_isFit_37 : decode cX4_isFit 37 = .ok (.iload_n 3, 1) := by decide +kernel
theorem dX4_isFit_38 : decode cX4_isFit 38 = .ok (.invokevirtual 176, 3) := by decide +kernel
theorem dX4_isFit_41 : decode cX4_isFit 41 = .ok (.ifCond .ne 5, 3) := by decide +kernel
theorem dX4_isFit_44 : decode cX4_isFit 44 = .ok (.iconst 0, 1) := by decide +kernel
theorem dX4_isFit_45 : decode cX4_isFit 45 = .ok (.ireturn, 1) := by decide +kernel
theorem dX4_isFit_46 : decode cX4_isFit 46 = .ok (.iinc 2 1, 3) := by decide +kernel
theorem dX4_isFit_49 : decode cX4_isFit 49 = .ok (.goto (-38), 3) := by decide +kernel
theorem dX4_isFit_52 : decode cX4_isFit 52 = .ok (.iconst 1, 1) := by decide +kernel
theorem dX4_isFit_53 : decode cX4_isFit 53 = .ok (.ireturn, 1) := by decide +kernel
theorem dX4_questionOf_0 : decode cX4_questionOf 0 = .ok (.iconst 0, 1) := by decide +kernel
theorem dX4_questionOf_1 : decode cX4_questionOf 1 = .ok (.istore_n 2, 1) := by decide +kernel
theorem dX4_questionOf_2 : decode cX4_questionOf 2 = .ok (.iload_n 2, 1) := by decide +kernel
theorem dX4_questionOf_3 : decode cX4_questionOf 3 = .ok (.iconst 3, 1) := by decide +kernel
theorem dX4_questionOf_4 : decode cX4_questionOf 4 = .ok (.if_icmp .ge 32, 3) := by decide +kernel
theorem dX4_questionOf_7 : decode cX4_questionOf 7 = .ok (.aload_n 0, 1) := by decide +kernel
theorem dX4_questionOf_8 : decode cX4_questionOf 8 = .ok (.iload_n 2, 1) := by decide +kernel
theorem dX4_questionOf_9 : decode cX4_questionOf 9 = .ok (.invokevirtual 310, 3) := by decide +kernel
theorem dX4_questionOf_12 : decode cX4_questionOf 12 = .ok (.iconst (-1), 1) := by decide +kernel
theorem dX4_questionOf_13 : decode cX4_questionOf 13 = .ok (.if_icmp .ne 17, 3) := by decide +kernel
theorem dX4_questionOf_16 : decode cX4_questionOf 16 = .ok (.aload_n 1, 1) := by decide +kernel
theorem dX4_questionOf_17 : decode cX4_questionOf 17 = .ok (.iload_n 2, 1) := by decide +kernel
theorem dX4_questionOf_18 : decode cX4_questionOf 18 = .ok (.invokevirtual 161, 3) := by decide +kernel
theorem dX4_questionOf_21 : decode cX4_questionOf 21 = .ok (.iload_n 2, 1) := by decide +kernel
theorem dX4_questionOf_22 : decode cX4_questionOf 22 = .ok (.invokestatic 251, 3) := by decide +kernel
theorem dX4_questionOf_25 : decode cX4_questionOf 25 = .ok (.if_icmp .eq 5, 3) := by decide +kernel
theorem dX4_questionOf_28 : decode cX4_questionOf 28 = .ok (.iload_n 2, 1) := by decide +kernel
theorem dX4_questionOf_29 : decode cX4_questionOf 29 = .ok (.ireturn, 1) := by decide +kernel
theorem dX4_questionOf_30 : decode cX4_questionOf 30 = .ok (.iinc 2 1, 3) := by decide +kernel
theorem dX4_questionOf_33 : decode cX4_questionOf 33 = .ok (.goto (-31), 3) := by decide +kernel
theorem dX4_questionOf_36 : decode cX4_questionOf 36 = .ok (.iconst (-1), 1) := by decide +kernel
theorem dX4_questionOf_37 : decode cX4_questionOf 37 = .ok (.ireturn, 1) := by decide +kernel
theorem dX4_costOf_0 : decode cX4_costOf 0 = .ok (.lload_n 0, 1) := by decide +kernel
theorem dX4_costOf_1 : decode cX4_costOf 1 = .ok (.aload_n 3, 1) := by decide +kernel
theorem dX4_costOf_2 : decode cX4_costOf 2 = .ok (.getfield 292, 3) := by decide +kernel
theorem dX4_costOf_5 : decode cX4_costOf 5 = .ok (.ldc2_w 313, 3) := by decide +kernel
theorem dX4_costOf_8 : decode cX4_costOf 8 = .ok (.lxor, 1) := by decide +kernel
theorem dX4_costOf_9 : decode cX4_costOf 9 = .ok (.land, 1) := by decide +kernel
theorem dX4_costOf_10 : decode cX4_costOf 10 = .ok (.invokestatic 254, 3) := by decide +kernel
theorem dX4_costOf_13 : decode cX4_costOf 13 = .ok (.istore 4, 2) := by decide +kernel
theorem dX4_costOf_15 : decode cX4_costOf 15 = .ok (.aload_n 3, 1) := by decide +kernel
theorem dX4_costOf_16 : decode cX4_costOf 16 = .ok (.getfield 292, 3) := by decide +kernel
theorem dX4_costOf_19 : decode cX4_costOf 19 = .ok (.lload_n 0, 1) := by decide +kernel
theorem dX4_costOf_20 : decode cX4_costOf 20 = .ok (.ldc2_w 313, 3) := by decide +kernel
theorem dX4_costOf_23 : decode cX4_costOf 23 = .ok (.lxor, 1) := by decide +kernel
theorem dX4_costOf_24 : decode cX4_costOf 24 = .ok (.land, 1) := by decide +kernel
theorem dX4_costOf_25 : decode cX4_costOf 25 = .ok (.invokestatic 254, 3) := by decide +kernel
theorem dX4_costOf_28 : decode cX4_costOf 28 = .ok (.istore 5, 2) := by decide +kernel
theorem dX4_costOf_30 : decode cX4_costOf 30 = .ok (.aload_n 3, 1) := by decide +kernel
theorem dX4_costOf_31 : decode cX4_costOf 31 = .ok (.invokevirtual 129, 3) := by decide +kernel
theorem dX4_costOf_34 : decode cX4_costOf 34 = .ok (.ifCond .eq 8, 3) := by decide +kernel
theorem dX4_costOf_37 : decode cX4_costOf 37 = .ok (.bipush 15, 2) := by decide +kernel
theorem dX4_costOf_39 : decode cX4_costOf 39 = .ok (.goto 4, 3) := by decide +kernel
theorem dX4_costOf_42 : decode cX4_costOf 42 = .ok (.iconst 0, 1) := by decide +kernel
theorem dX4_costOf_43 : decode cX4_costOf 43 = .ok (.istore 6, 2) := by decide +kernel
theorem dX4_costOf_45 : decode cX4_costOf 45 = .ok (.aload_n 2, 1) := by decide +kernel
theorem dX4_costOf_46 : decode cX4_costOf 46 = .ok (.aload_n 3, 1) := by decide +kernel
theorem dX4_costOf_47 : decode cX4_costOf 47 = .ok (.invokestatic 222, 3) := by decide +kernel
theorem dX4_costOf_50 : decode cX4_costOf 50 = .ok (.iconst (-1), 1) := by decide +kernel
theorem dX4_costOf_51 : decode cX4_costOf 51 = .ok (.if_icmp .ne 7, 3) := by decide +kernel
theorem dX4_costOf_54 : decode cX4_costOf 54 = .ok (.iconst 0, 1) := by decide +kernel
theorem dX4_costOf_55 : decode cX4_costOf 55 = .ok (.goto 4, 3) := by decide +kernel
theorem dX4_costOf_58 : decode cX4_costOf 58 = .ok (.iconst 5, 1) := by decide +kernel
theorem dX4_costOf_59 : decode cX4_costOf 59 = .ok (.istore 7, 2) := by decide +kernel
theorem dX4_costOf_61 : decode cX4_costOf 61 = .ok (.bipush (-9), 2) := by decide +kernel
theorem dX4_costOf_63 : decode cX4_costOf 63 = .ok (.bipush 9, 2) := by decide +kernel
theorem dX4_costOf_65 : decode cX4_costOf 65 = .ok (.aload_n 3, 1) := by decide +kernel
theorem dX4_costOf_66 : decode cX4_costOf 66 = .ok (.getfield 152, 3) := by decide +kernel
theorem dX4_costOf_69 : decode cX4_costOf 69 = .ok (.invokestatic 315, 3) := by decide +kernel
theorem dX4_costOf_72 : decode cX4_costOf 72 = .ok (.invokestatic 320, 3) := by decide +kernel
theorem dX4_costOf_75 : decode cX4_costOf 75 = .ok (.istore 8, 2) := by decide +kernel
theorem dX4_costOf_77 : decode cX4_costOf 77 = .ok (.bipush 10, 2) := by decide +kernel
theorem dX4_costOf_79 : decode cX4_costOf 79 = .ok (.iload 4, 2) := by decide +kernel
theorem dX4_costOf_81 : decode cX4_costOf 81 = .ok (.imul, 1) := by decide +kernel
theorem dX4_costOf_82 : decode cX4_costOf 82 = .ok (.iconst 3, 1) := by decide +kernel
theorem dX4_costOf_83 : decode cX4_costOf 83 = .ok (.iload 5, 2) := by decide +kernel
theorem dX4_costOf_85 : decode cX4_costOf 85 = .ok (.imul, 1) := by decide +kernel
theorem dX4_costOf_86 : decode cX4_costOf 86 = .ok (.iadd, 1) := by decide +kernel
theorem dX4_costOf_87 : decode cX4_costOf 87 = .ok (.iload 6, 2) := by decide +kernel
theorem dX4_costOf_89 : decode cX4_costOf 89 = .ok (.iadd, 1) := by decide +kernel
theorem dX4_costOf_90 : decode cX4_costOf 90 = .ok (.iload 7, 2) := by decide +kernel
theorem dX4_costOf_92 : decode cX4_costOf 92 = .ok (.iadd, 1) := by decide +kernel
theorem dX4_costOf_93 : decode cX4_costOf 93 = .ok (.iload 8, 2) := by decide +kernel
theorem dX4_costOf_95 : decode cX4_costOf 95 = .ok (.isub, 1) := by decide +kernel
theorem dX4_costOf_96 : decode cX4_costOf 96 = .ok (.ireturn, 1) := by decide +kernel
theorem dX4_isFound_0 : decode cX4_isFound 0 = .ok (.aload 4, 2) := by decide +kernel
theorem dX4_isFound_2 : decode cX4_isFound 2 = .ok (.ifnull 30, 3) := by decide +kernel
theorem dX4_isFound_5 : decode cX4_isFound 5 = .ok (.aload_n 3, 1) := by decide +kernel
theorem dX4_isFound_6 : decode cX4_isFound 6 = .ok (.aload 4, 2) := by decide +kernel
theorem dX4_isFound_8 : decode cX4_isFound 8 = .ok (.invokestatic 226, 3) := by decide +kernel
theorem dX4_isFound_11 : decode cX4_isFound 11 = .ok (.ifCond .eq 21, 3) := by decide +kernel
theorem dX4_isFound_14 : decode cX4_isFound 14 = .ok (.lload_n 1, 1) := by decide +kernel
theorem dX4_isFound_15 : decode cX4_isFound 15 = .ok (.aload_n 3, 1) := by decide +kernel
theorem dX4_isFound_16 : decode cX4_isFound 16 = .ok (.aload 4, 2) := by decide +kernel
theorem dX4_isFound_18 : decode cX4_isFound 18 = .ok (.invokestatic 218, 3) := by decide +kernel
theorem dX4_isFound_21 : decode cX4_isFound 21 = .ok (.aload_n 0, 1) := by decide +kernel
theorem dX4_isFound_22 : decode cX4_isFound 22 = .ok (.getfield 45, 3) := by decide +kernel
theorem dX4_isFound_25 : decode cX4_isFound 25 = .ok (.if_icmp .gt 7, 3) := by decide +kernel
theorem dX4_isFound_28 : decode cX4_isFound 28 = .ok (.iconst 1, 1) := by decide +kernel
theorem dX4_isFound_29 : decode cX4_isFound 29 = .ok (.goto 4, 3) := by decide +kernel
theorem dX4_isFound_32 : decode cX4_isFound 32 = .ok (.iconst 0, 1) := by decide +kernel
theorem dX4_isFound_33 : decode cX4_isFound 33 = .ok (.ireturn, 1) := by decide +kernel
theorem dX4_findsSome_0 : decode cX4_findsSome 0 = .ok (.iconst 0, 1) := by decide +kernel
theorem dX4_findsSome_1 : decode cX4_findsSome 1 = .ok (.istore 4, 2) := by decide +kernel
theorem dX4_findsSome_3 : decode cX4_findsSome 3 = .ok (.iload 4, 2) := by decide +kernel
theorem dX4_findsSome_5 : decode cX4_findsSome 5 = .ok (.aload_n 0, 1) := by decide +kernel
theorem dX4_findsSome_6 : decode cX4_findsSome 6 = .ok (.getfield 35, 3) := by decide +kernel
theorem dX4_findsSome_9 : decode cX4_findsSome 9 = .ok (.if_icmp .ge 26, 3) := by decide +kernel
theorem dX4_findsSome_12 : decode cX4_findsSome 12 = .ok (.aload_n 0, 1) := by decide +kernel
theorem dX4_findsSome_13 : decode cX4_findsSome 13 = .ok (.lload_n 1, 1) := by decide +kernel
theorem dX4_findsSome_14 : decode cX4_findsSome 14 = .ok (.aload_n 3, 1) := by decide +kernel
theorem dX4_findsSome_15 : decode cX4_findsSome 15 = .ok (.aload_n 0, 1) := by decide +kernel
theorem dX4_findsSome_16 : decode cX4_findsSome 16 = .ok (.iload 4, 2) := by decide +kernel
theorem dX4_findsSome_18 : decode cX4_findsSome 18 = .ok (.invokevirtual 120, 3) := by decide +kernel
theorem dX4_findsSome_21 : decode cX4_findsSome 21 = .ok (.invokevirtual 323, 3) := by decide +kernel
theorem dX4_findsSome_24 : decode cX4_findsSome 24 = .ok (.ifCond .eq 5, 3) := by decide +kernel
theorem dX4_findsSome_27 : decode cX4_findsSome 27 = .ok (.iconst 1, 1) := by decide +kernel
theorem dX4_findsSome_28 : decode cX4_findsSome 28 = .ok (.ireturn, 1) := by decide +kernel
theorem dX4_findsSome_29 : decode cX4_findsSome 29 = .ok (.iinc 4 1, 3) := by decide +kernel
theorem dX4_findsSome_32 : decode cX4_findsSome 32 = .ok (.goto (-29), 3) := by decide +kernel
theorem dX4_findsSome_35 : decode cX4_findsSome 35 = .ok (.iconst 0, 1) := by decide +kernel
theorem dX4_findsSome_36 : decode cX4_findsSome 36 = .ok (.ireturn, 1) := by decide +kernel
theorem dX4_foundCount_0 : decode cX4_foundCount 0 = .ok (.iconst 0, 1) := by decide +kernel
theorem dX4_foundCount_1 : decode cX4_foundCount 1 = .ok (.istore_n 2, 1) := by decide +kernel
theorem dX4_foundCount_2 : decode cX4_foundCount 2 = .ok (.iconst 0, 1) := by decide +kernel
theorem dX4_foundCount_3 : decode cX4_foundCount 3 = .ok (.istore_n 3, 1) := by decide +kernel
theorem dX4_foundCount_4 : decode cX4_foundCount 4 = .ok (.iload_n 3, 1) := by decide +kernel
theorem dX4_foundCount_5 : decode cX4_foundCount 5 = .ok (.aload_n 0, 1) := by decide +kernel
theorem dX4_foundCount_6 : decode cX4_foundCount 6 = .ok (.getfield 35, 3) := by decide +kernel
theorem dX4_foundCount_9 : decode cX4_foundCount 9 = .ok (.if_icmp .ge 29, 3) := by decide +kernel
theorem dX4_foundCount_12 : decode cX4_foundCount 12 = .ok (.aload_n 0, 1) := by decide +kernel
theorem dX4_foundCount_13 : decode cX4_foundCount 13 = .ok (.aload_n 1, 1) := by decide +kernel
theorem dX4_foundCount_14 : decode cX4_foundCount 14 = .ok (.getfield 215, 3) := by decide +kernel
theorem dX4_foundCount_17 : decode cX4_foundCount 17 = .ok (.aload_n 1, 1) := by decide +kernel
theorem dX4_foundCount_18 : decode cX4_foundCount 18 = .ok (.aload_n 0, 1) := by decide +kernel
theorem dX4_foundCount_19 : decode cX4_foundCount 19 = .ok (.iload_n 3, 1) := by decide +kernel
theorem dX4_foundCount_20 : decode cX4_foundCount 20 = .ok (.invokevirtual 120, 3) := by decide +kernel
theorem dX4_foundCount_23 : decode cX4_foundCount 23 = .ok (.invokevirtual 323, 3) := by decide +kernel
theorem dX4_foundCount_26 : decode cX4_foundCount 26 = .ok (.ifCond .eq 6, 3) := by decide +kernel
theorem dX4_foundCount_29 : decode cX4_foundCount 29 = .ok (.iinc 2 1, 3) := by decide +kernel
theorem dX4_foundCount_32 : decode cX4_foundCount 32 = .ok (.iinc 3 1, 3) := by decide +kernel
theorem dX4_foundCount_35 : decode cX4_foundCount 35 = .ok (.goto (-31), 3) := by decide +kernel
theorem dX4_foundCount_38 : decode cX4_foundCount 38 = .ok (.iload_n 2, 1) := by decide +kernel
theorem dX4_foundCount_39 : decode cX4_foundCount 39 = .ok (.ireturn, 1) := by decide +kernel
theorem dX4_foundAt_0 : decode cX4_foundAt 0 = .ok (.iconst 0, 1) := by decide +kernel
theorem dX4_foundAt_1 : decode cX4_foundAt 1 = .ok (.istore_n 3, 1) := by decide +kernel
theorem dX4_foundAt_2 : decode cX4_foundAt 2 = .ok (.iload_n 3, 1) := by decide +kernel
theorem dX4_foundAt_3 : decode cX4_foundAt 3 = .ok (.aload_n 0, 1) := by decide +kernel
theorem dX4_foundAt_4 : decode cX4_foundAt 4 = .ok (.getfield 35, 3) := by decide +kernel
theorem dX4_foundAt_7 : decode cX4_foundAt 7 = .ok (.if_icmp .ge 49, 3) := by decide +kernel
theorem dX4_foundAt_10 : decode cX4_foundAt 10 = .ok (.aload_n 0, 1) := by decide +kernel
theorem dX4_foundAt_11 : decode cX4_foundAt 11 = .ok (.iload_n 3, 1) := by decide +kernel
theorem dX4_foundAt_12 : decode cX4_foundAt 12 = .ok (.invokevirtual 120, 3) := by decide +kernel
theorem dX4_foundAt_15 : decode cX4_foundAt 15 = .ok (.astore 4, 2) := by decide +kernel
theorem dX4_foundAt_17 : decode cX4_foundAt 17 = .ok (.aload 4, 2) := by decide +kernel
theorem dX4_foundAt_19 : decode cX4_foundAt 19 = .ok (.ifnull 31, 3) := by decide +kernel
theorem dX4_foundAt_22 : decode cX4_foundAt 22 = .ok (.aload_n 0, 1) := by decide +kernel
theorem dX4_foundAt_23 : decode cX4_foundAt 23 = .ok (.aload_n 1, 1) := by decide +kernel
theorem dX4_foundAt_24 : decode cX4_foundAt 24 = .ok (.getfield 215, 3) := by decide +kernel
theorem dX4_foundAt_27 : decode cX4_foundAt 27 = .ok (.aload_n 1, 1) := by decide +kernel
theorem dX4_foundAt_28 : decode cX4_foundAt 28 = .ok (.aload 4, 2) := by decide +kernel
theorem dX4_foundAt_30 : decode cX4_foundAt 30 = .ok (.invokevirtual 323, 3) := by decide +kernel
theorem dX4_foundAt_33 : decode cX4_foundAt 33 = .ok (.ifCond .eq 17, 3) := by decide +kernel
theorem dX4_foundAt_36 : decode cX4_foundAt 36 = .ok (.aload_n 0, 1) := by decide +kernel
theorem dX4_foundAt_37 : decode cX4_foundAt 37 = .ok (.aload_n 1, 1) := by decide +kernel
theorem dX4_foundAt_38 : decode cX4_foundAt 38 = .ok (.aload 4, 2) := by decide +kernel
theorem dX4_foundAt_40 : decode cX4_foundAt 40 = .ok (.invokevirtual 327, 3) := by decide +kernel
theorem dX4_foundAt_43 : decode cX4_foundAt 43 = .ok (.iload_n 2, 1) := by decide +kernel
theorem dX4_foundAt_44 : decode cX4_foundAt 44 = .ok (.if_icmp .ne 6, 3) := by decide +kernel
theorem dX4_foundAt_47 : decode cX4_foundAt 47 = .ok (.aload 4, 2) := by decide +kernel
theorem dX4_foundAt_49 : decode cX4_foundAt 49 = .ok (.areturn, 1) := by decide +kernel
theorem dX4_foundAt_50 : decode cX4_foundAt 50 = .ok (.iinc 3 1, 3) := by decide +kernel
theorem dX4_foundAt_53 : decode cX4_foundAt 53 = .ok (.goto (-51), 3) := by decide +kernel
theorem dX4_foundAt_56 : decode cX4_foundAt 56 = .ok (.aconst_null, 1) := by decide +kernel
theorem dX4_foundAt_57 : decode cX4_foundAt 57 = .ok (.areturn, 1) := by decide +kernel
theorem dX4_betterCount_0 : decode cX4_betterCount 0 = .ok (.aload_n 1, 1) := by decide +kernel
theorem dX4_betterCount_1 : decode cX4_betterCount 1 = .ok (.getfield 215, 3) := by decide +kernel
theorem dX4_betterCount_4 : decode cX4_betterCount 4 = .ok (.aload_n 1, 1) := by decide +kernel
theorem dX4_betterCount_5 : decode cX4_betterCount 5 = .ok (.aload_n 2, 1) := by decide +kernel
theorem dX4_betterCount_6 : decode cX4_betterCount 6 = .ok (.invokestatic 218, 3) := by decide +kernel
theorem dX4_betterCount_9 : decode cX4_betterCount 9 = .ok (.istore_n 3, 1) := by decide +kernel
theorem dX4_betterCount_10 : decode cX4_betterCount 10 = .ok (.iconst 0, 1) := by decide +kernel
theorem dX4_betterCount_11 : decode cX4_betterCount 11 = .ok (.istore 4, 2) := by decide +kernel
theorem dX4_betterCount_13 : decode cX4_betterCount 13 = .ok (.iconst 0, 1) := by decide +kernel
theorem dX4_betterCount_14 : decode cX4_betterCount 14 = .ok (.istore 5, 2) := by decide +kernel
theorem dX4_betterCount_16 : decode cX4_betterCount 16 = .ok (.iload 5, 2) := by decide +kernel
theorem dX4_betterCount_18 : decode cX4_betterCount 18 = .ok (.aload_n 0, 1) := by decide +kernel
theorem dX4_betterCount_19 : decode cX4_betterCount 19 = .ok (.getfield 35, 3) := by decide +kernel
theorem dX4_betterCount_22 : decode cX4_betterCount 22 = .ok (.if_icmp .ge 75, 3) := by decide +kernel
theorem dX4_betterCount_25 : decode cX4_betterCount 25 = .ok (.aload_n 0, 1) := by decide +kernel
theorem dX4_betterCount_26 : decode cX4_betterCount 26 = .ok (.iload 5, 2) := by decide +kernel
theorem dX4_betterCount_28 : decode cX4_betterCount 28 = .ok (.invokevirtual 120, 3) := by decide +kernel
theorem dX4_betterCount_31 : decode cX4_betterCount 31 = .ok (.astore 6, 2) := by decide +kernel
theorem dX4_betterCount_33 : decode cX4_betterCount 33 = .ok (.aload 6, 2) := by decide +kernel
theorem dX4_betterCount_35 : decode cX4_betterCount 35 = .ok (.ifnull 56, 3) := by decide +kernel
theorem dX4_betterCount_38 : decode cX4_betterCount 38 = .ok (.aload_n 0, 1) := by decide +kernel
theorem dX4_betterCount_39 : decode cX4_betterCount 39 = .ok (.aload_n 1, 1) := by decide +kernel
theorem dX4_betterCount_40 : decode cX4_betterCount 40 = .ok (.getfield 215, 3) := by decide +kernel
theorem dX4_betterCount_43 : decode cX4_betterCount 43 = .ok (.aload_n 1, 1) := by decide +kernel
theorem dX4_betterCount_44 : decode cX4_betterCount 44 = .ok (.aload 6, 2) := by decide +kernel
theorem dX4_betterCount_46 : decode cX4_betterCount 46 = .ok (.invokevirtual 323, 3) := by decide +kernel
theorem dX4_betterCount_49 : decode cX4_betterCount 49 = .ok (.ifCond .eq 42, 3) := by decide +kernel
theorem dX4_betterCount_52 : decode cX4_betterCount 52 = .ok (.aload_n 1, 1) := by decide +kernel
theorem dX4_betterCount_53 : decode cX4_betterCount 53 = .ok (.getfield 215, 3) := by decide +kernel
theorem dX4_betterCount_56 : decode cX4_betterCount 56 = .ok (.aload_n 1, 1) := by decide +kernel
theorem dX4_betterCount_57 : decode cX4_betterCount 57 = .ok (.aload 6, 2) := by decide +kernel
theorem dX4_betterCount_59 : decode cX4_betterCount 59 = .ok (.invokestatic 218, 3) := by decide +kernel
theorem dX4_betterCount_62 : decode cX4_betterCount 62 = .ok (.istore 7, 2) := by decide +kernel
theorem dX4_betterCount_64 : decode cX4_betterCount 64 = .ok (.iload 7, 2) := by decide +kernel
theorem dX4_betterCount_66 : decode cX4_betterCount 66 = .ok (.iload_n 3, 1) := by decide +kernel
theorem dX4_betterCount_67 : decode cX4_betterCount 67 = .ok (.if_icmp .lt 21, 3) := by decide +kernel
theorem dX4_betterCount_70 : decode cX4_betterCount 70 = .ok (.iload 7, 2) := by decide +kernel
theorem dX4_betterCount_72 : decode cX4_betterCount 72 = .ok (.iload_n 3, 1) := by decide +kernel
theorem dX4_betterCount_73 : decode cX4_betterCount 73 = .ok (.if_icmp .ne 18, 3) := by decide +kernel
theorem dX4_betterCount_76 : decode cX4_betterCount 76 = .ok (.aload 6, 2) := by decide +kernel
theorem dX4_betterCount_78 : decode cX4_betterCount 78 = .ok (.getfield 99, 3) := by decide +kernel
theorem dX4_betterCount_81 : decode cX4_betterCount 81 = .ok (.aload_n 2, 1) := by decide +kernel
theorem dX4_betterCount_82 : decode cX4_betterCount 82 = .ok (.getfield 99, 3) := by decide +kernel
theorem dX4_betterCount_85 : decode cX4_betterCount 85 = .ok (.if_icmp .ge 6, 3) := by decide +kernel
theorem dX4_betterCount_88 : decode cX4_betterCount 88 = .ok (.iinc 4 1, 3) := by decide +kernel
theorem dX4_betterCount_91 : decode cX4_betterCount 91 = .ok (.iinc 5 1, 3) := by decide +kernel
theorem dX4_betterCount_94 : decode cX4_betterCount 94 = .ok (.goto (-78), 3) := by decide +kernel
theorem dX4_betterCount_97 : decode cX4_betterCount 97 = .ok (.iload 4, 2) := by decide +kernel
theorem dX4_betterCount_99 : decode cX4_betterCount 99 = .ok (.ireturn, 1) := by decide +kernel
theorem dX4_helpFor_0 : decode cX4_helpFor 0 = .ok (.iconst 0, 1) := by decide +kernel
theorem dX4_helpFor_1 : decode cX4_helpFor 1 = .ok (.istore_n 2, 1) := by decide +kernel
theorem dX4_helpFor_2 : decode cX4_helpFor 2 = .ok (.iload_n 2, 1) := by decide +kernel
theorem dX4_helpFor_3 : decode cX4_helpFor 3 = .ok (.bipush 40, 2) := by decide +kernel
theorem dX4_helpFor_5 : decode cX4_helpFor 5 = .ok (.if_icmp .ge 34, 3) := by decide +kernel
theorem dX4_helpFor_8 : decode cX4_helpFor 8 = .ok (.aload_n 0, 1) := by decide +kernel
theorem dX4_helpFor_9 : decode cX4_helpFor 9 = .ok (.aload_n 0, 1) := by decide +kernel
theorem dX4_helpFor_10 : decode cX4_helpFor 10 = .ok (.getfield 10, 3) := by decide +kernel
theorem dX4_helpFor_13 : decode cX4_helpFor 13 = .ok (.aload_n 1, 1) := by decide +kernel
theorem dX4_helpFor_14 : decode cX4_helpFor 14 = .ok (.getfield 278, 3) := by decide +kernel
theorem dX4_helpFor_17 : decode cX4_helpFor 17 = .ok (.lconst 1, 1) := by decide +kernel
theorem dX4_helpFor_18 : decode cX4_helpFor 18 = .ok (.iload_n 2, 1) := by decide +kernel
theorem dX4_helpFor_19 : decode cX4_helpFor 19 = .ok (.lshl, 1) := by decide +kernel
theorem dX4_helpFor_20 : decode cX4_helpFor 20 = .ok (.lor, 1) := by decide +kernel
theorem dX4_helpFor_21 : decode cX4_helpFor 21 = .ok (.invokevirtual 279, 3) := by decide +kernel
theorem dX4_helpFor_24 : decode cX4_helpFor 24 = .ok (.aload_n 1, 1) := by decide +kernel
theorem dX4_helpFor_25 : decode cX4_helpFor 25 = .ok (.invokevirtual 230, 3) := by decide +kernel
theorem dX4_helpFor_28 : decode cX4_helpFor 28 = .ok (.ifCond .eq 5, 3) := by decide +kernel
theorem dX4_helpFor_31 : decode cX4_helpFor 31 = .ok (.iload_n 2, 1) := by decide +kernel
theorem dX4_helpFor_32 : decode cX4_helpFor 32 = .ok (.ireturn, 1) := by decide +kernel
theorem dX4_helpFor_33 : decode cX4_helpFor 33 = .ok (.iinc 2 1, 3) := by decide +kernel
theorem dX4_helpFor_36 : decode cX4_helpFor 36 = .ok (.goto (-34), 3) := by decide +kernel
theorem dX4_helpFor_39 : decode cX4_helpFor 39 = .ok (.iconst (-1), 1) := by decide +kernel
theorem dX4_helpFor_40 : decode cX4_helpFor 40 = .ok (.ireturn, 1) := by decide +kernel
theorem dX4_asksInVain_0 : decode cX4_asksInVain 0 = .ok (.iconst 0, 1) := by decide +kernel
theorem dX4_asksInVain_1 : decode cX4_asksInVain 1 = .ok (.istore_n 1, 1) := by decide +kernel
theorem dX4_asksInVain_2 : decode cX4_asksInVain 2 = .ok (.iconst 0, 1) := by decide +kernel
theorem dX4_asksInVain_3 : decode cX4_asksInVain 3 = .ok (.istore_n 2, 1) := by decide +kernel
theorem dX4_asksInVain_4 : decode cX4_asksInVain 4 = .ok (.iload_n 2, 1) := by decide +kernel
theorem dX4_asksInVain_5 : decode cX4_asksInVain 5 = .ok (.aload_n 0, 1) := by decide +kernel
theorem dX4_asksInVain_6 : decode cX4_asksInVain 6 = .ok (.getfield 39, 3) := by decide +kernel
theorem dX4_asksInVain_9 : decode cX4_asksInVain 9 = .ok (.if_icmp .ge 38, 3) := by decide +kernel
theorem dX4_asksInVain_12 : decode cX4_asksInVain 12 = .ok (.aload_n 0, 1) := by decide +kernel
theorem dX4_asksInVain_13 : decode cX4_asksInVain 13 = .ok (.iload_n 2, 1) := by decide +kernel
theorem dX4_asksInVain_14 : decode cX4_asksInVain 14 = .ok (.invokevirtual 207, 3) := by decide +kernel
theorem dX4_asksInVain_17 : decode cX4_asksInVain 17 = .ok (.astore_n 3, 1) := by decide +kernel
theorem dX4_asksInVain_18 : decode cX4_asksInVain 18 = .ok (.aload_n 3, 1) := by decide +kernel
theorem dX4_asksInVain_19 : decode cX4_asksInVain 19 = .ok (.ifnull 22, 3) := by decide +kernel
theorem dX4_asksInVain_22 : decode cX4_asksInVain 22 = .ok (.aload_n 0, 1) := by decide +kernel
theorem dX4_asksInVain_23 : decode cX4_asksInVain 23 = .ok (.aload_n 3, 1) := by decide +kernel
theorem dX4_asksInVain_24 : decode cX4_asksInVain 24 = .ok (.getfield 215, 3) := by decide +kernel
theorem dX4_asksInVain_27 : decode cX4_asksInVain 27 = .ok (.aload_n 3, 1) := by decide +kernel
theorem dX4_asksInVain_28 : decode cX4_asksInVain 28 = .ok (.invokevirtual 230, 3) := by decide +kernel
theorem dX4_asksInVain_31 : decode cX4_asksInVain 31 = .ok (.ifCond .ne 10, 3) := by decide +kernel
theorem dX4_asksInVain_34 : decode cX4_asksInVain 34 = .ok (.iload_n 1, 1) := by decide +kernel
theorem dX4_asksInVain_35 : decode cX4_asksInVain 35 = .ok (.iload_n 2, 1) := by decide +kernel
theorem dX4_asksInVain_36 : decode cX4_asksInVain 36 = .ok (.invokestatic 105, 3) := by decide +kernel
theorem dX4_asksInVain_39 : decode cX4_asksInVain 39 = .ok (.ior, 1) := by decide +kernel
theorem dX4_asksInVain_40 : decode cX4_asksInVain 40 = .ok (.istore_n 1, 1) := by decide +kernel
theorem dX4_asksInVain_41 : decode cX4_asksInVain 41 = .ok (.iinc 2 1, 3) := by decide +kernel
theorem dX4_asksInVain_44 : decode cX4_asksInVain 44 = .ok (.goto (-40), 3) := by decide +kernel
theorem dX4_asksInVain_47 : decode cX4_asksInVain 47 = .ok (.iload_n 1, 1) := by decide +kernel
theorem dX4_asksInVain_48 : decode cX4_asksInVain 48 = .ok (.ireturn, 1) := by decide +kernel
theorem dX4_heapCount_0 : decode cX4_heapCount 0 = .ok (.iload_n 1, 1) := by decide +kernel
theorem dX4_heapCount_1 : decode cX4_heapCount 1 = .ok (.istore_n 2, 1) := by decide +kernel
theorem dX4_heapCount_2 : decode cX4_heapCount 2 = .ok (.iconst 0, 1) := by decide +kernel
theorem dX4_heapCount_3 : decode cX4_heapCount 3 = .ok (.istore_n 3, 1) := by decide +kernel
theorem dX4_heapCount_4 : decode cX4_heapCount 4 = .ok (.iconst 0, 1) := by decide +kernel
theorem dX4_heapCount_5 : decode cX4_heapCount 5 = .ok (.istore 4, 2) := by decide +kernel
theorem dX4_heapCount_7 : decode cX4_heapCount 7 = .ok (.iload 4, 2) := by decide +kernel
theorem dX4_heapCount_9 : decode cX4_heapCount 9 = .ok (.aload_n 0, 1) := by decide +kernel
theorem dX4_heapCount_10 : decode cX4_heapCount 10 = .ok (.getfield 39, 3) := by decide +kernel
theorem dX4_heapCount_13 : decode cX4_heapCount 13 = .ok (.if_icmp .ge 34, 3) := by decide +kernel
theorem dX4_heapCount_16 : decode cX4_heapCount 16 = .ok (.iload_n 2, 1) := by decide +kernel
theorem dX4_heapCount_17 : decode cX4_heapCount 17 = .ok (.iload 4, 2) := by decide +kernel
theorem dX4_heapCount_19 : decode cX4_heapCount 19 = .ok (.invokestatic 105, 3) := by decide +kernel
theorem dX4_heapCount_22 : decode cX4_heapCount 22 = .ok (.iand, 1) := by decide +kernel
theorem dX4_heapCount_23 : decode cX4_heapCount 23 = .ok (.ifCond .eq 18, 3) := by decide +kernel
theorem dX4_heapCount_26 : decode cX4_heapCount 26 = .ok (.iload_n 2, 1) := by decide +kernel
theorem dX4_heapCount_27 : decode cX4_heapCount 27 = .ok (.aload_n 0, 1) := by decide +kernel
theorem dX4_heapCount_28 : decode cX4_heapCount 28 = .ok (.iload 4, 2) := by decide +kernel
theorem dX4_heapCount_30 : decode cX4_heapCount 30 = .ok (.iload_n 1, 1) := by decide +kernel
theorem dX4_heapCount_31 : decode cX4_heapCount 31 = .ok (.invokevirtual 330, 3) := by decide +kernel
theorem dX4_heapCount_34 : decode cX4_heapCount 34 = .ok (.iconst (-1), 1) := by decide +kernel
theorem dX4_heapCount_35 : decode cX4_heapCount 35 = .ok (.ixor, 1) := by decide +kernel
theorem dX4_heapCount_36 : decode cX4_heapCount 36 = .ok (.iand, 1) := by decide +kernel
theorem dX4_heapCount_37 : decode cX4_heapCount 37 = .ok (.istore_n 2, 1) := by decide +kernel
theorem dX4_heapCount_38 : decode cX4_heapCount 38 = .ok (.iinc 3 1, 3) := by decide +kernel
theorem dX4_heapCount_41 : decode cX4_heapCount 41 = .ok (.iinc 4 1, 3) := by decide +kernel
theorem dX4_heapCount_44 : decode cX4_heapCount 44 = .ok (.goto (-37), 3) := by decide +kernel
theorem dX4_heapCount_47 : decode cX4_heapCount 47 = .ok (.iload_n 3, 1) := by decide +kernel
theorem dX4_heapCount_48 : decode cX4_heapCount 48 = .ok (.ireturn, 1) := by decide +kernel
theorem dX4_heapOf_0 : decode cX4_heapOf 0 = .ok (.iload_n 2, 1) := by decide +kernel
theorem dX4_heapOf_1 : decode cX4_heapOf 1 = .ok (.istore_n 3, 1) := by decide +kernel
theorem dX4_heapOf_2 : decode cX4_heapOf 2 = .ok (.iconst 0, 1) := by decide +kernel
theorem dX4_heapOf_3 : decode cX4_heapOf 3 = .ok (.istore 4, 2) := by decide +kernel
theorem dX4_heapOf_5 : decode cX4_heapOf 5 = .ok (.iconst 0, 1) := by decide +kernel
theorem dX4_heapOf_6 : decode cX4_heapOf 6 = .ok (.istore 5, 2) := by decide +kernel
theorem dX4_heapOf_8 : decode cX4_heapOf 8 = .ok (.iload 5, 2) := by decide +kernel
theorem dX4_heapOf_10 : decode cX4_heapOf 10 = .ok (.aload_n 0, 1) := by decide +kernel
theorem dX4_heapOf_11 : decode cX4_heapOf 11 = .ok (.getfield 39, 3) := by decide +kernel
theorem dX4_heapOf_14 : decode cX4_heapOf 14 = .ok (.if_icmp .ge 51, 3) := by decide +kernel
theorem dX4_heapOf_17 : decode cX4_heapOf 17 = .ok (.iload_n 3, 1) := by decide +kernel
theorem dX4_heapOf_18 : decode cX4_heapOf 18 = .ok (.iload 5, 2) := by decide +kernel
theorem dX4_heapOf_20 : decode cX4_heapOf 20 = .ok (.invokestatic 105, 3) := by decide +kernel
theorem dX4_heapOf_23 : decode cX4_heapOf 23 = .ok (.iand, 1) := by decide +kernel
theorem dX4_heapOf_24 : decode cX4_heapOf 24 = .ok (.ifCond .eq 35, 3) := by decide +kernel
theorem dX4_heapOf_27 : decode cX4_heapOf 27 = .ok (.aload_n 0, 1) := by decide +kernel
theorem dX4_heapOf_28 : decode cX4_heapOf 28 = .ok (.iload 5, 2) := by decide +kernel
theorem dX4_heapOf_30 : decode cX4_heapOf 30 = .ok (.iload_n 2, 1) := by decide +kernel
theorem dX4_heapOf_31 : decode cX4_heapOf 31 = .ok (.invokevirtual 330, 3) := by decide +kernel
theorem dX4_heapOf_34 : decode cX4_heapOf 34 = .ok (.istore 6, 2) := by decide +kernel
theorem dX4_heapOf_36 : decode cX4_heapOf 36 = .ok (.iload 6, 2) := by decide +kernel
theorem dX4_heapOf_38 : decode cX4_heapOf 38 = .ok (.iload_n 1, 1) := by decide +kernel
theorem dX4_heapOf_39 : decode cX4_heapOf 39 = .ok (.invokestatic 105, 3) := by decide +kernel
theorem dX4_heapOf_42 : decode cX4_heapOf 42 = .ok (.iand, 1) := by decide +kernel
theorem dX4_heapOf_43 : decode cX4_heapOf 43 = .ok (.ifCond .eq 6, 3) := by decide +kernel
theorem dX4_heapOf_46 : decode cX4_heapOf 46 = .ok (.iload 4, 2) := by decide +kernel
theorem dX4_heapOf_48 : decode cX4_heapOf 48 = .ok (.ireturn, 1) := by decide +kernel
theorem dX4_heapOf_49 : decode cX4_heapOf 49 = .ok (.iload_n 3, 1) := by decide +kernel
theorem dX4_heapOf_50 : decode cX4_heapOf 50 = .ok (.iload 6, 2) := by decide +kernel
theorem dX4_heapOf_52 : decode cX4_heapOf 52 = .ok (.iconst (-1), 1) := by decide +kernel
theorem dX4_heapOf_53 : decode cX4_heapOf 53 = .ok (.ixor, 1) := by decide +kernel
theorem dX4_heapOf_54 : decode cX4_heapOf 54 = .ok (.iand, 1) := by decide +kernel
theorem dX4_heapOf_55 : decode cX4_heapOf 55 = .ok (.istore_n 3, 1) := by decide +kernel
theorem dX4_heapOf_56 : decode cX4_heapOf 56 = .ok (.iinc 4 1, 3) := by decide +kernel
theorem dX4_heapOf_59 : decode cX4_heapOf 59 = .ok (.iinc 5 1, 3) := by decide +kernel
theorem dX4_heapOf_62 : decode cX4_heapOf 62 = .ok (.goto (-54), 3) := by decide +kernel
theorem dX4_heapOf_65 : decode cX4_heapOf 65 = .ok (.iconst (-1), 1) := by decide +kernel
theorem dX4_heapOf_66 : decode cX4_heapOf 66 = .ok (.ireturn, 1) := by decide +kernel
theorem dX4_heapFrom_0 : decode cX4_heapFrom 0 = .ok (.iload_n 1, 1) := by decide +kernel
theorem dX4_heapFrom_1 : decode cX4_heapFrom 1 = .ok (.invokestatic 105, 3) := by decide +kernel
theorem dX4_heapFrom_4 : decode cX4_heapFrom 4 = .ok (.istore_n 3, 1) := by decide +kernel
theorem dX4_heapFrom_5 : decode cX4_heapFrom 5 = .ok (.iconst 0, 1) := by decide +kernel
theorem dX4_heapFrom_6 : decode cX4_heapFrom 6 = .ok (.istore 4, 2) := by decide +kernel
theorem dX4_heapFrom_8 : decode cX4_heapFrom 8 = .ok (.iload 4, 2) := by decide +kernel
theorem dX4_heapFrom_10 : decode cX4_heapFrom 10 = .ok (.bipush 30, 2) := by decide +kernel
theorem dX4_heapFrom_12 : decode cX4_heapFrom 12 = .ok (.if_icmp .ge 75, 3) := by decide +kernel
theorem dX4_heapFrom_15 : decode cX4_heapFrom 15 = .ok (.iload_n 3, 1) := by decide +kernel
theorem dX4_heapFrom_16 : decode cX4_heapFrom 16 = .ok (.istore 5, 2) := by decide +kernel
theorem dX4_heapFrom_18 : decode cX4_heapFrom 18 = .ok (.iconst 0, 1) := by decide +kernel
theorem dX4_heapFrom_19 : decode cX4_heapFrom 19 = .ok (.istore 6, 2) := by decide +kernel
theorem dX4_heapFrom_21 : decode cX4_heapFrom 21 = .ok (.iload 6, 2) := by decide +kernel
theorem dX4_heapFrom_23 : decode cX4_heapFrom 23 = .ok (.aload_n 0, 1) := by decide +kernel
theorem dX4_heapFrom_24 : decode cX4_heapFrom 24 = .ok (.getfield 39, 3) := by decide +kernel
theorem dX4_heapFrom_27 : decode cX4_heapFrom 27 = .ok (.if_icmp .ge 45, 3) := by decide +kernel
theorem dX4_heapFrom_30 : decode cX4_heapFrom 30 = .ok (.iload_n 2, 1) := by decide +kernel
theorem dX4_heapFrom_31 : decode cX4_heapFrom 31 = .ok (.iload_n 3, 1) := by decide +kernel
theorem dX4_heapFrom_32 : decode cX4_heapFrom 32 = .ok (.iconst (-1), 1) := by decide +kernel
theorem dX4_heapFrom_33 : decode cX4_heapFrom 33 = .ok (.ixor, 1) := by decide +kernel
theorem dX4_heapFrom_34 : decode cX4_heapFrom 34 = .ok (.iand, 1) := by decide +kernel
theorem dX4_heapFrom_35 : decode cX4_heapFrom 35 = .ok (.iload 6, 2) := by decide +kernel
theorem dX4_heapFrom_37 : decode cX4_heapFrom 37 = .ok (.invokestatic 105, 3) := by decide +kernel
theorem dX4_heapFrom_40 : decode cX4_heapFrom 40 = .ok (.iand, 1) := by decide +kernel
theorem dX4_heapFrom_41 : decode cX4_heapFrom 41 = .ok (.ifCond .eq 25, 3) := by decide +kernel
theorem dX4_heapFrom_44 : decode cX4_heapFrom 44 = .ok (.aload_n 0, 1) := by decide +kernel
theorem dX4_heapFrom_45 : decode cX4_heapFrom 45 = .ok (.aload_n 0, 1) := by decide +kernel
theorem dX4_heapFrom_46 : decode cX4_heapFrom 46 = .ok (.iload 6, 2) := by decide +kernel
theorem dX4_heapFrom_48 : decode cX4_heapFrom 48 = .ok (.invokevirtual 207, 3) := by decide +kernel
theorem dX4_heapFrom_51 : decode cX4_heapFrom 51 = .ok (.iload_n 3, 1) := by decide +kernel
theorem dX4_heapFrom_52 : decode cX4_heapFrom 52 = .ok (.invokevirtual 333, 3) := by decide +kernel
theorem dX4_heapFrom_55 : decode cX4_heapFrom 55 = .ok (.ifCond .eq 11, 3) := by decide +kernel
theorem dX4_heapFrom_58 : decode cX4_heapFrom 58 = .ok (.iload_n 3, 1) := by decide +kernel
theorem dX4_heapFrom_59 : decode cX4_heapFrom 59 = .ok (.iload 6, 2) := by decide +kernel
theorem dX4_heapFrom_61 : decode cX4_heapFrom 61 = .ok (.invokestatic 105, 3) := by decide +kernel
theorem dX4_heapFrom_64 : decode cX4_heapFrom 64 = .ok (.ior, 1) := by decide +kernel
theorem dX4_heapFrom_65 : decode cX4_heapFrom 65 = .ok (.istore_n 3, 1) := by decide +kernel
theorem dX4_heapFrom_66 : decode cX4_heapFrom 66 = .ok (.iinc 6 1, 3) := by decide +kernel
theorem dX4_heapFrom_69 : decode cX4_heapFrom 69 = .ok (.goto (-48), 3) := by decide +kernel
theorem dX4_heapFrom_72 : decode cX4_heapFrom 72 = .ok (.iload_n 3, 1) := by decide +kernel
theorem dX4_heapFrom_73 : decode cX4_heapFrom 73 = .ok (.iload 5, 2) := by decide +kernel
theorem dX4_heapFrom_75 : decode cX4_heapFrom 75 = .ok (.if_icmp .ne 6, 3) := by decide +kernel
theorem dX4_heapFrom_78 : decode cX4_heapFrom 78 = .ok (.goto 9, 3) := by decide +kernel
theorem dX4_heapFrom_81 : decode cX4_heapFrom 81 = .ok (.iinc 4 1, 3) := by decide +kernel
theorem dX4_heapFrom_84 : decode cX4_heapFrom 84 = .ok (.goto (-76), 3) := by decide +kernel
theorem dX4_heapFrom_87 : decode cX4_heapFrom 87 = .ok (.iload_n 3, 1) := by decide +kernel
theorem dX4_heapFrom_88 : decode cX4_heapFrom 88 = .ok (.ireturn, 1) := by decide +kernel
theorem dX4_isNearOne_0 : decode cX4_isNearOne 0 = .ok (.iconst 0, 1) := by decide +kernel
theorem dX4_isNearOne_1 : decode cX4_isNearOne 1 = .ok (.istore_n 3, 1) := by decide +kernel
theorem dX4_isNearOne_2 : decode cX4_isNearOne 2 = .ok (.aload_n 1, 1) := by decide +kernel
theorem dX4_isNearOne_3 : decode cX4_isNearOne 3 = .ok (.ifnull 59, 3) := by decide +kernel
theorem dX4_isNearOne_6 : decode cX4_isNearOne 6 = .ok (.iload_n 3, 1) := by decide +kernel
theorem dX4_isNearOne_7 : decode cX4_isNearOne 7 = .ok (.aload_n 0, 1) := by decide +kernel
theorem dX4_isNearOne_8 : decode cX4_isNearOne 8 = .ok (.getfield 39, 3) := by decide +kernel
theorem dX4_isNearOne_11 : decode cX4_isNearOne 11 = .ok (.if_icmp .ge 51, 3) := by decide +kernel
theorem dX4_isNearOne_14 : decode cX4_isNearOne 14 = .ok (.aload_n 0, 1) := by decide +kernel
theorem dX4_isNearOne_15 : decode cX4_isNearOne 15 = .ok (.iload_n 3, 1) := by decide +kernel
theorem dX4_isNearOne_16 : decode cX4_isNearOne 16 = .ok (.invokevirtual 207, 3) := by decide +kernel
theorem dX4_isNearOne_19 : decode cX4_isNearOne 19 = .ok (.astore 4, 2) := by decide +kernel
theorem dX4_isNearOne_21 : decode cX4_isNearOne 21 = .ok (.aload 4, 2) := by decide +kernel
theorem dX4_isNearOne_23 : decode cX4_isNearOne 23 = .ok (.ifnull 33, 3) := by decide +kernel
theorem dX4_isNearOne_26 : decode cX4_isNearOne 26 = .ok (.iload_n 2, 1) := by decide +kernel
theorem dX4_isNearOne_27 : decode cX4_isNearOne 27 = .ok (.iload_n 3, 1) := by decide +kernel
theorem dX4_isNearOne_28 : decode cX4_isNearOne 28 = .ok (.invokestatic 105, 3) := by decide +kernel
theorem dX4_isNearOne_31 : decode cX4_isNearOne 31 = .ok (.iand, 1) := by decide +kernel
theorem dX4_isNearOne_32 : decode cX4_isNearOne 32 = .ok (.ifCond .eq 24, 3) := by decide +kernel
theorem dX4_isNearOne_35 : decode cX4_isNearOne 35 = .ok (.aload_n 1, 1) := by decide +kernel
theorem dX4_isNearOne_36 : decode cX4_isNearOne 36 = .ok (.getfield 215, 3) := by decide +kernel
theorem dX4_isNearOne_39 : decode cX4_isNearOne 39 = .ok (.aload 4, 2) := by decide +kernel
theorem dX4_isNearOne_41 : decode cX4_isNearOne 41 = .ok (.getfield 215, 3) := by decide +kernel
theorem dX4_isNearOne_44 : decode cX4_isNearOne 44 = .ok (.invokestatic 303, 3) := by decide +kernel
theorem dX4_isNearOne_47 : decode cX4_isNearOne 47 = .ok (.aload_n 0, 1) := by decide +kernel
theorem dX4_isNearOne_48 : decode cX4_isNearOne 48 = .ok (.getfield 42, 3) := by decide +kernel
theorem dX4_isNearOne_51 : decode cX4_isNearOne 51 = .ok (.if_icmp .gt 5, 3) := by decide +kernel
theorem dX4_isNearOne_54 : decode cX4_isNearOne 54 = .ok (.iconst 1, 1) := by decide +kernel
theorem dX4_isNearOne_55 : decode cX4_isNearOne 55 = .ok (.ireturn, 1) := by decide +kernel
theorem dX4_isNearOne_56 : decode cX4_isNearOne 56 = .ok (.iinc 3 1, 3) := by decide +kernel
theorem dX4_isNearOne_59 : decode cX4_isNearOne 59 = .ok (.goto (-57), 3) := by decide +kernel
theorem dX4_isNearOne_62 : decode cX4_isNearOne 62 = .ok (.iconst 0, 1) := by decide +kernel
theorem dX4_isNearOne_63 : decode cX4_isNearOne 63 = .ok (.ireturn, 1) := by decide +kernel
