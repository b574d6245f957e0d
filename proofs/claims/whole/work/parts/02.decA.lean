theorem dX0_init_0 : decode cX0_init 0 = .ok (.aload_n 0, 1) := by decide +kernel
theorem dX0_init_1 : decode cX0_init 1 = .ok (.invokespecial 3, 3) := by decide +kernel
theorem dX0_init_4 : decode cX0_init 4 = .ok (.aload_n 0, 1) := by decide +kernel
theorem dX0_init_5 : decode cX0_init 5 = .ok (.iconst 3, 1) := by decide +kernel
theorem dX0_init_6 : decode cX0_init 6 = .ok (.newarray .int, 2) := by decide +kernel
theorem dX0_init_8 : decode cX0_init 8 = .ok (.putfield 9, 3) := by decide +kernel
theorem dX0_init_11 : decode cX0_init 11 = .ok (.aload_n 0, 1) := by decide +kernel
theorem dX0_init_12 : decode cX0_init 12 = .ok (.iconst 4, 1) := by decide +kernel
theorem dX0_init_13 : decode cX0_init 13 = .ok (.newarray .int, 2) := by decide +kernel
theorem dX0_init_15 : decode cX0_init 15 = .ok (.putfield 15, 3) := by decide +kernel
theorem dX0_init_18 : decode cX0_init 18 = .ok (.aload_n 0, 1) := by decide +kernel
theorem dX0_init_19 : decode cX0_init 19 = .ok (.lconst 0, 1) := by decide +kernel
theorem dX0_init_20 : decode cX0_init 20 = .ok (.putfield 18, 3) := by decide +kernel
theorem dX0_init_23 : decode cX0_init 23 = .ok (.aload_n 0, 1) := by decide +kernel
theorem dX0_init_24 : decode cX0_init 24 = .ok (.iconst 0, 1) := by decide +kernel
theorem dX0_init_25 : decode cX0_init 25 = .ok (.putfield 22, 3) := by decide +kernel
theorem dX0_init_28 : decode cX0_init 28 = .ok (.aload_n 0, 1) := by decide +kernel
theorem dX0_init_29 : decode cX0_init 29 = .ok (.iconst 0, 1) := by decide +kernel
theorem dX0_init_30 : decode cX0_init 30 = .ok (.putfield 26, 3) := by decide +kernel
theorem dX0_init_33 : decode cX0_init 33 = .ok (.aload_n 0, 1) := by decide +kernel
theorem dX0_init_34 : decode cX0_init 34 = .ok (.iconst 0, 1) := by decide +kernel
theorem dX0_init_35 : decode cX0_init 35 = .ok (.putfield 29, 3) := by decide +kernel
theorem dX0_init_38 : decode cX0_init 38 = .ok (.aload_n 0, 1) := by decide +kernel
theorem dX0_init_39 : decode cX0_init 39 = .ok (.lconst 0, 1) := by decide +kernel
theorem dX0_init_40 : decode cX0_init 40 = .ok (.putfield 32, 3) := by decide +kernel
theorem dX0_init_43 : decode cX0_init 43 = .ok (.aload_n 0, 1) := by decide +kernel
theorem dX0_init_44 : decode cX0_init 44 = .ok (.iconst 0, 1) := by decide +kernel
theorem dX0_init_45 : decode cX0_init 45 = .ok (.putfield 35, 3) := by decide +kernel
theorem dX0_init_48 : decode cX0_init 48 = .ok (.aload_n 0, 1) := by decide +kernel
theorem dX0_init_49 : decode cX0_init 49 = .ok (.iconst 0, 1) := by decide +kernel
theorem dX0_init_50 : decode cX0_init 50 = .ok (.putfield 39, 3) := by decide +kernel
theorem dX0_init_53 : decode cX0_init 53 = .ok (.aload_n 0, 1) := by decide +kernel
theorem dX0_init_54 : decode cX0_init 54 = .ok (.iload_n 1, 1) := by decide +kernel
theorem dX0_init_55 : decode cX0_init 55 = .ok (.putfield 42, 3) := by decide +kernel
theorem dX0_init_58 : decode cX0_init 58 = .ok (.aload_n 0, 1) := by decide +kernel
theorem dX0_init_59 : decode cX0_init 59 = .ok (.iload_n 2, 1) := by decide +kernel
theorem dX0_init_60 : decode cX0_init 60 = .ok (.putfield 45, 3) := by decide +kernel
theorem dX0_init_63 : decode cX0_init 63 = .ok (.aload_n 0, 1) := by decide +kernel
theorem dX0_init_64 : decode cX0_init 64 = .ok (.iload_n 3, 1) := by decide +kernel
theorem dX0_init_65 : decode cX0_init 65 = .ok (.putfield 48, 3) := by decide +kernel
theorem dX0_init_68 : decode cX0_init 68 = .ok (.aload_n 0, 1) := by decide +kernel
theorem dX0_init_69 : decode cX0_init 69 = .ok (.iload_n 1, 1) := by decide +kernel
theorem dX0_init_70 : decode cX0_init 70 = .ok (.putfield 51, 3) := by decide +kernel
theorem dX0_init_73 : decode cX0_init 73 = .ok (.iconst 0, 1) := by decide +kernel
theorem dX0_init_74 : decode cX0_init 74 = .ok (.istore 4, 2) := by decide +kernel
theorem dX0_init_76 : decode cX0_init 76 = .ok (.iload 4, 2) := by decide +kernel
theorem dX0_init_78 : decode cX0_init 78 = .ok (.aload_n 0, 1) := by decide +kernel
theorem dX0_init_79 : decode cX0_init 79 = .ok (.getfield 15, 3) := by decide +kernel
theorem dX0_init_82 : decode cX0_init 82 = .ok (.arraylength, 1) := by decide +kernel
theorem dX0_init_83 : decode cX0_init 83 = .ok (.if_icmp .ge 17, 3) := by decide +kernel
theorem dX0_init_86 : decode cX0_init 86 = .ok (.aload_n 0, 1) := by decide +kernel
theorem dX0_init_87 : decode cX0_init 87 = .ok (.getfield 15, 3) := by decide +kernel
theorem dX0_init_90 : decode cX0_init 90 = .ok (.iload 4, 2) := by decide +kernel
theorem dX0_init_92 : decode cX0_init 92 = .ok (.iconst (-1), 1) := by decide +kernel
theorem dX0_init_93 : decode cX0_init 93 = .ok (.iastore, 1) := by decide +kernel
theorem dX0_init_94 : decode cX0_init 94 = .ok (.iinc 4 1, 3) := by decide +kernel
theorem dX0_init_97 : decode cX0_init 97 = .ok (.goto (-21), 3) := by decide +kernel
theorem dX0_init_100 : decode cX0_init 100 = .ok (.return_, 1) := by decide +kernel
theorem dX0_isMoved_0 : decode cX0_isMoved 0 = .ok (.aload_n 0, 1) := by decide +kernel
theorem dX0_isMoved_1 : decode cX0_isMoved 1 = .ok (.getfield 51, 3) := by decide +kernel
theorem dX0_isMoved_4 : decode cX0_isMoved 4 = .ok (.aload_n 0, 1) := by decide +kernel
theorem dX0_isMoved_5 : decode cX0_isMoved 5 = .ok (.getfield 42, 3) := by decide +kernel
theorem dX0_isMoved_8 : decode cX0_isMoved 8 = .ok (.if_icmp .eq 7, 3) := by decide +kernel
theorem dX0_isMoved_11 : decode cX0_isMoved 11 = .ok (.iconst 1, 1) := by decide +kernel
theorem dX0_isMoved_12 : decode cX0_isMoved 12 = .ok (.goto 4, 3) := by decide +kernel
theorem dX0_isMoved_15 : decode cX0_isMoved 15 = .ok (.iconst 0, 1) := by decide +kernel
theorem dX0_isMoved_16 : decode cX0_isMoved 16 = .ok (.ireturn, 1) := by decide +kernel
theorem dX0_kindNow_0 : decode cX0_kindNow 0 = .ok (.aload_n 0, 1) := by decide +kernel
theorem dX0_kindNow_1 : decode cX0_kindNow 1 = .ok (.invokevirtual 54, 3) := by decide +kernel
theorem dX0_kindNow_4 : decode cX0_kindNow 4 = .ok (.ifCond .eq 7, 3) := by decide +kernel
theorem dX0_kindNow_7 : decode cX0_kindNow 7 = .ok (.iconst 2, 1) := by decide +kernel
theorem dX0_kindNow_8 : decode cX0_kindNow 8 = .ok (.goto 7, 3) := by decide +kernel
theorem dX0_kindNow_11 : decode cX0_kindNow 11 = .ok (.aload_n 0, 1) := by decide +kernel
theorem dX0_kindNow_12 : decode cX0_kindNow 12 = .ok (.getfield 45, 3) := by decide +kernel
theorem dX0_kindNow_15 : decode cX0_kindNow 15 = .ok (.ireturn, 1) := by decide +kernel
theorem dX0_isDoubted_0 : decode cX0_isDoubted 0 = .ok (.aload_n 0, 1) := by decide +kernel
theorem dX0_isDoubted_1 : decode cX0_isDoubted 1 = .ok (.getfield 35, 3) := by decide +kernel
theorem dX0_isDoubted_4 : decode cX0_isDoubted 4 = .ok (.ifCond .eq 14, 3) := by decide +kernel
theorem dX0_isDoubted_7 : decode cX0_isDoubted 7 = .ok (.aload_n 0, 1) := by decide +kernel
theorem dX0_isDoubted_8 : decode cX0_isDoubted 8 = .ok (.invokevirtual 54, 3) := by decide +kernel
theorem dX0_isDoubted_11 : decode cX0_isDoubted 11 = .ok (.ifCond .ne 7, 3) := by decide +kernel
theorem dX0_isDoubted_14 : decode cX0_isDoubted 14 = .ok (.iconst 1, 1) := by decide +kernel
theorem dX0_isDoubted_15 : decode cX0_isDoubted 15 = .ok (.goto 4, 3) := by decide +kernel
theorem dX0_isDoubted_18 : decode cX0_isDoubted 18 = .ok (.iconst 0, 1) := by decide +kernel
theorem dX0_isDoubted_19 : decode cX0_isDoubted 19 = .ok (.ireturn, 1) := by decide +kernel
theorem dX0_setOf_0 : decode cX0_setOf 0 = .ok (.iload_n 1, 1) := by decide +kernel
theorem dX0_setOf_1 : decode cX0_setOf 1 = .ok (.ifCond .lt 21, 3) := by decide +kernel
theorem dX0_setOf_4 : decode cX0_setOf 4 = .ok (.iload_n 1, 1) := by decide +kernel
theorem dX0_setOf_5 : decode cX0_setOf 5 = .ok (.aload_n 0, 1) := by decide +kernel
theorem dX0_setOf_6 : decode cX0_setOf 6 = .ok (.getfield 9, 3) := by decide +kernel
theorem dX0_setOf_9 : decode cX0_setOf 9 = .ok (.arraylength, 1) := by decide +kernel
theorem dX0_setOf_10 : decode cX0_setOf 10 = .ok (.if_icmp .ge 12, 3) := by decide +kernel
theorem dX0_setOf_13 : decode cX0_setOf 13 = .ok (.aload_n 0, 1) := by decide +kernel
theorem dX0_setOf_14 : decode cX0_setOf 14 = .ok (.getfield 9, 3) := by decide +kernel
theorem dX0_setOf_17 : decode cX0_setOf 17 = .ok (.iload_n 1, 1) := by decide +kernel
theorem dX0_setOf_18 : decode cX0_setOf 18 = .ok (.iaload, 1) := by decide +kernel
theorem dX0_setOf_19 : decode cX0_setOf 19 = .ok (.goto 4, 3) := by decide +kernel
theorem dX0_setOf_22 : decode cX0_setOf 22 = .ok (.iconst 0, 1) := by decide +kernel
theorem dX0_setOf_23 : decode cX0_setOf 23 = .ok (.ireturn, 1) := by decide +kernel
theorem dX0_hasValue_0 : decode cX0_hasValue 0 = .ok (.aload_n 0, 1) := by decide +kernel
theorem dX0_hasValue_1 : decode cX0_hasValue 1 = .ok (.iload_n 1, 1) := by decide +kernel
theorem dX0_hasValue_2 : decode cX0_hasValue 2 = .ok (.invokevirtual 58, 3) := by decide +kernel
theorem dX0_hasValue_5 : decode cX0_hasValue 5 = .ok (.iload_n 2, 1) := by decide +kernel
theorem dX0_hasValue_6 : decode cX0_hasValue 6 = .ok (.invokestatic 62, 3) := by decide +kernel
theorem dX0_hasValue_9 : decode cX0_hasValue 9 = .ok (.iand, 1) := by decide +kernel
theorem dX0_hasValue_10 : decode cX0_hasValue 10 = .ok (.ifCond .eq 7, 3) := by decide +kernel
theorem dX0_hasValue_13 : decode cX0_hasValue 13 = .ok (.iconst 1, 1) := by decide +kernel
theorem dX0_hasValue_14 : decode cX0_hasValue 14 = .ok (.goto 4, 3) := by decide +kernel
theorem dX0_hasValue_17 : decode cX0_hasValue 17 = .ok (.iconst 0, 1) := by decide +kernel
theorem dX0_hasValue_18 : decode cX0_hasValue 18 = .ok (.ireturn, 1) := by decide +kernel
theorem dX0_partAt_0 : decode cX0_partAt 0 = .ok (.iload_n 1, 1) := by decide +kernel
theorem dX0_partAt_1 : decode cX0_partAt 1 = .ok (.ifCond .lt 21, 3) := by decide +kernel
theorem dX0_partAt_4 : decode cX0_partAt 4 = .ok (.iload_n 1, 1) := by decide +kernel
theorem dX0_partAt_5 : decode cX0_partAt 5 = .ok (.aload_n 0, 1) := by decide +kernel
theorem dX0_partAt_6 : decode cX0_partAt 6 = .ok (.getfield 15, 3) := by decide +kernel
theorem dX0_partAt_9 : decode cX0_partAt 9 = .ok (.arraylength, 1) := by decide +kernel
theorem dX0_partAt_10 : decode cX0_partAt 10 = .ok (.if_icmp .ge 12, 3) := by decide +kernel
theorem dX0_partAt_13 : decode cX0_partAt 13 = .ok (.aload_n 0, 1) := by decide +kernel
theorem dX0_partAt_14 : decode cX0_partAt 14 = .ok (.getfield 15, 3) := by decide +kernel
theorem dX0_partAt_17 : decode cX0_partAt 17 = .ok (.iload_n 1, 1) := by decide +kernel
theorem dX0_partAt_18 : decode cX0_partAt 18 = .ok (.iaload, 1) := by decide +kernel
theorem dX0_partAt_19 : decode cX0_partAt 19 = .ok (.goto 4, 3) := by decide +kernel
theorem dX0_partAt_22 : decode cX0_partAt 22 = .ok (.iconst (-1), 1) := by decide +kernel
theorem dX0_partAt_23 : decode cX0_partAt 23 = .ok (.ireturn, 1) := by decide +kernel
theorem dX0_partCount_0 : decode cX0_partCount 0 = .ok (.iconst 0, 1) := by decide +kernel
theorem dX0_partCount_1 : decode cX0_partCount 1 = .ok (.istore_n 1, 1) := by decide +kernel
theorem dX0_partCount_2 : decode cX0_partCount 2 = .ok (.iconst 0, 1) := by decide +kernel
theorem dX0_partCount_3 : decode cX0_partCount 3 = .ok (.istore_n 2, 1) := by decide +kernel
theorem dX0_partCount_4 : decode cX0_partCount 4 = .ok (.iload_n 2, 1) := by decide +kernel
theorem dX0_partCount_5 : decode cX0_partCount 5 = .ok (.aload_n 0, 1) := by decide +kernel
theorem dX0_partCount_6 : decode cX0_partCount 6 = .ok (.getfield 15, 3) := by decide +kernel
theorem dX0_partCount_9 : decode cX0_partCount 9 = .ok (.arraylength, 1) := by decide +kernel
theorem dX0_partCount_10 : decode cX0_partCount 10 = .ok (.if_icmp .ge 22, 3) := by decide +kernel
theorem dX0_partCount_13 : decode cX0_partCount 13 = .ok (.aload_n 0, 1) := by decide +kernel
theorem dX0_partCount_14 : decode cX0_partCount 14 = .ok (.getfield 15, 3) := by decide +kernel
theorem dX0_partCount_17 : decode cX0_partCount 17 = .ok (.iload_n 2, 1) := by decide +kernel
theorem dX0_partCount_18 : decode cX0_partCount 18 = .ok (.iaload, 1) := by decide +kernel
theorem dX0_partCount_19 : decode cX0_partCount 19 = .ok (.iconst (-1), 1) := by decide +kernel
theorem dX0_partCount_20 : decode cX0_partCount 20 = .ok (.if_icmp .eq 6, 3) := by decide +kernel
theorem dX0_partCount_23 : decode cX0_partCount 23 = .ok (.iinc 1 1, 3) := by decide +kernel
theorem dX0_partCount_26 : decode cX0_partCount 26 = .ok (.iinc 2 1, 3) := by decide +kernel
theorem dX0_partCount_29 : decode cX0_partCount 29 = .ok (.goto (-25), 3) := by decide +kernel
theorem dX0_partCount_32 : decode cX0_partCount 32 = .ok (.iload_n 1, 1) := by decide +kernel
theorem dX0_partCount_33 : decode cX0_partCount 33 = .ok (.ireturn, 1) := by decide +kernel
theorem dX0_putSets_0 : decode cX0_putSets 0 = .ok (.iconst 0, 1) := by decide +kernel
theorem dX0_putSets_1 : decode cX0_putSets 1 = .ok (.istore 4, 2) := by decide +kernel
theorem dX0_putSets_3 : decode cX0_putSets 3 = .ok (.iload 4, 2) := by decide +kernel
theorem dX0_putSets_5 : decode cX0_putSets 5 = .ok (.aload_n 0, 1) := by decide +kernel
theorem dX0_putSets_6 : decode cX0_putSets 6 = .ok (.getfield 9, 3) := by decide +kernel
theorem dX0_putSets_9 : decode cX0_putSets 9 = .ok (.arraylength, 1) := by decide +kernel
theorem dX0_putSets_10 : decode cX0_putSets 10 = .ok (.if_icmp .ge 36, 3) := by decide +kernel
theorem dX0_putSets_13 : decode cX0_putSets 13 = .ok (.aload_n 0, 1) := by decide +kernel
theorem dX0_putSets_14 : decode cX0_putSets 14 = .ok (.getfield 9, 3) := by decide +kernel
theorem dX0_putSets_17 : decode cX0_putSets 17 = .ok (.iload 4, 2) := by decide +kernel
theorem dX0_putSets_19 : decode cX0_putSets 19 = .ok (.iload 4, 2) := by decide +kernel
theorem dX0_putSets_21 : decode cX0_putSets 21 = .ok (.ifCond .ne 7, 3) := by decide +kernel
theorem dX0_putSets_24 : decode cX0_putSets 24 = .ok (.iload_n 1, 1) := by decide +kernel
theorem dX0_putSets_25 : decode cX0_putSets 25 = .ok (.goto 14, 3) := by decide +kernel
theorem dX0_putSets_28 : decode cX0_putSets 28 = .ok (.iload 4, 2) := by decide +kernel
theorem dX0_putSets_30 : decode cX0_putSets 30 = .ok (.iconst 1, 1) := by decide +kernel
theorem dX0_putSets_31 : decode cX0_putSets 31 = .ok (.if_icmp .ne 7, 3) := by decide +kernel
theorem dX0_putSets_34 : decode cX0_putSets 34 = .ok (.iload_n 2, 1) := by decide +kernel
theorem dX0_putSets_35 : decode cX0_putSets 35 = .ok (.goto 4, 3) := by decide +kernel
theorem dX0_putSets_38 : decode cX0_putSets 38 = .ok (.iload_n 3, 1) := by decide +kernel
theorem dX0_putSets_39 : decode cX0_putSets 39 = .ok (.iastore, 1) := by decide +kernel
theorem dX0_putSets_40 : decode cX0_putSets 40 = .ok (.iinc 4 1, 3) := by decide +kernel
theorem dX0_putSets_43 : decode cX0_putSets 43 = .ok (.goto (-40), 3) := by decide +kernel
theorem dX0_putSets_46 : decode cX0_putSets 46 = .ok (.return_, 1) := by decide +kernel
theorem dX0_putParts_0 : decode cX0_putParts 0 = .ok (.iconst 0, 1) := by decide +kernel
theorem dX0_putParts_1 : decode cX0_putParts 1 = .ok (.istore 5, 2) := by decide +kernel
theorem dX0_putParts_3 : decode cX0_putParts 3 = .ok (.iload 5, 2) := by decide +kernel
theorem dX0_putParts_5 : decode cX0_putParts 5 = .ok (.aload_n 0, 1) := by decide +kernel
theorem dX0_putParts_6 : decode cX0_putParts 6 = .ok (.getfield 15, 3) := by decide +kernel
theorem dX0_putParts_9 : decode cX0_putParts 9 = .ok (.arraylength, 1) := by decide +kernel
theorem dX0_putParts_10 : decode cX0_putParts 10 = .ok (.if_icmp .ge 47, 3) := by decide +kernel
theorem dX0_putParts_13 : decode cX0_putParts 13 = .ok (.aload_n 0, 1) := by decide +kernel
theorem dX0_putParts_14 : decode cX0_putParts 14 = .ok (.getfield 15, 3) := by decide +kernel
theorem dX0_putParts_17 : decode cX0_putParts 17 = .ok (.iload 5, 2) := by decide +kernel
theorem dX0_putParts_19 : decode cX0_putParts 19 = .ok (.iload 5, 2) := by decide +kernel
theorem dX0_putParts_21 : decode cX0_putParts 21 = .ok (.ifCond .ne 7, 3) := by decide +kernel
theorem dX0_putParts_24 : decode cX0_putParts 24 = .ok (.iload_n 1, 1) := by decide +kernel
theorem dX0_putParts_25 : decode cX0_putParts 25 = .ok (.goto 25, 3) := by decide +kernel
theorem dX0_putParts_28 : decode cX0_putParts 28 = .ok (.iload 5, 2) := by decide +kernel
theorem dX0_putParts_30 : decode cX0_putParts 30 = .ok (.iconst 1, 1) := by decide +kernel
theorem dX0_putParts_31 : decode cX0_putParts 31 = .ok (.if_icmp .ne 7, 3) := by decide +kernel
theorem dX0_putParts_34 : decode cX0_putParts 34 = .ok (.iload_n 2, 1) := by decide +kernel
theorem dX0_putParts_35 : decode cX0_putParts 35 = .ok (.goto 15, 3) := by decide +kernel
theorem dX0_putParts_38 : decode cX0_putParts 38 = .ok (.iload 5, 2) := by decide +kernel
theorem dX0_putParts_40 : decode cX0_putParts 40 = .ok (.iconst 2, 1) := by decide +kernel
theorem dX0_putParts_41 : decode cX0_putParts 41 = .ok (.if_icmp .ne 7, 3) := by decide +kernel
theorem dX0_putParts_44 : decode cX0_putParts 44 = .ok (.iload_n 3, 1) := by decide +kernel
theorem dX0_putParts_45 : decode cX0_putParts 45 = .ok (.goto 5, 3) := by decide +kernel
theorem dX0_putParts_48 : decode cX0_putParts 48 = .ok (.iload 4, 2) := by decide +kernel
theorem dX0_putParts_50 : decode cX0_putParts 50 = .ok (.iastore, 1) := by decide +kernel
theorem dX0_putParts_51 : decode cX0_putParts 51 = .ok (.iinc 5 1, 3) := by decide +kernel
theorem dX0_putParts_54 : decode cX0_putParts 54 = .ok (.goto (-51), 3) := by decide +kernel
theorem dX0_putParts_57 : decode cX0_putParts 57 = .ok (.return_, 1) := by decide +kernel
theorem dX0_takeAllOf_0 : decode cX0_takeAllOf 0 = .ok (.aload_n 0, 1) := by decide +kernel
theorem dX0_takeAllOf_1 : decode cX0_takeAllOf 1 = .ok (.dup, 1) := by decide +kernel
theorem dX0_takeAllOf_2 : decode cX0_takeAllOf 2 = .ok (.getfield 18, 3) := by decide +kernel
theorem dX0_takeAllOf_5 : decode cX0_takeAllOf 5 = .ok (.aload_n 1, 1) := by decide +kernel
theorem dX0_takeAllOf_6 : decode cX0_takeAllOf 6 = .ok (.getfield 18, 3) := by decide +kernel
theorem dX0_takeAllOf_9 : decode cX0_takeAllOf 9 = .ok (.lor, 1) := by decide +kernel
theorem dX0_takeAllOf_10 : decode cX0_takeAllOf 10 = .ok (.putfield 18, 3) := by decide +kernel
theorem dX0_takeAllOf_13 : decode cX0_takeAllOf 13 = .ok (.iconst 0, 1) := by decide +kernel
theorem dX0_takeAllOf_14 : decode cX0_takeAllOf 14 = .ok (.istore_n 2, 1) := by decide +kernel
theorem dX0_takeAllOf_15 : decode cX0_takeAllOf 15 = .ok (.iload_n 2, 1) := by decide +kernel
theorem dX0_takeAllOf_16 : decode cX0_takeAllOf 16 = .ok (.aload_n 0, 1) := by decide +kernel
theorem dX0_takeAllOf_17 : decode cX0_takeAllOf 17 = .ok (.getfield 9, 3) := by decide +kernel
theorem dX0_takeAllOf_20 : decode cX0_takeAllOf 20 = .ok (.arraylength, 1) := by decide +kernel
theorem dX0_takeAllOf_21 : decode cX0_takeAllOf 21 = .ok (.if_icmp .ge 23, 3) := by decide +kernel
theorem dX0_takeAllOf_24 : decode cX0_takeAllOf 24 = .ok (.aload_n 0, 1) := by decide +kernel
theorem dX0_takeAllOf_25 : decode cX0_takeAllOf 25 = .ok (.getfield 9, 3) := by decide +kernel
theorem dX0_takeAllOf_28 : decode cX0_takeAllOf 28 = .ok (.iload_n 2, 1) := by decide +kernel
theorem dX0_takeAllOf_29 : decode cX0_takeAllOf 29 = .ok (.dup2, 1) := by decide +kernel
theorem dX0_takeAllOf_30 : decode cX0_takeAllOf 30 = .ok (.iaload, 1) := by decide +kernel
theorem dX0_takeAllOf_31 : decode cX0_takeAllOf 31 = .ok (.aload_n 1, 1) := by decide +kernel
theorem dX0_takeAllOf_32 : decode cX0_takeAllOf 32 = .ok (.iload_n 2, 1) := by decide +kernel
theorem dX0_takeAllOf_33 : decode cX0_takeAllOf 33 = .ok (.invokevirtual 58, 3) := by decide +kernel
theorem dX0_takeAllOf_36 : decode cX0_takeAllOf 36 = .ok (.ior, 1) := by decide +kernel
theorem dX0_takeAllOf_37 : decode cX0_takeAllOf 37 = .ok (.iastore, 1) := by decide +kernel
theorem dX0_takeAllOf_38 : decode cX0_takeAllOf 38 = .ok (.iinc 2 1, 3) := by decide +kernel
theorem dX0_takeAllOf_41 : decode cX0_takeAllOf 41 = .ok (.goto (-26), 3) := by decide +kernel
theorem dX0_takeAllOf_44 : decode cX0_takeAllOf 44 = .ok (.aload_n 0, 1) := by decide +kernel
theorem dX0_takeAllOf_45 : decode cX0_takeAllOf 45 = .ok (.dup, 1) := by decide +kernel
theorem dX0_takeAllOf_46 : decode cX0_takeAllOf 46 = .ok (.getfield 22, 3) := by decide +kernel
theorem dX0_takeAllOf_49 : decode cX0_takeAllOf 49 = .ok (.aload_n 1, 1) := by decide +kernel
theorem dX0_takeAllOf_50 : decode cX0_takeAllOf 50 = .ok (.getfield 22, 3) := by decide +kernel
theorem dX0_takeAllOf_53 : decode cX0_takeAllOf 53 = .ok (.ior, 1) := by decide +kernel
theorem dX0_takeAllOf_54 : decode cX0_takeAllOf 54 = .ok (.putfield 22, 3) := by decide +kernel
theorem dX0_takeAllOf_57 : decode cX0_takeAllOf 57 = .ok (.aload_n 0, 1) := by decide +kernel
theorem dX0_takeAllOf_58 : decode cX0_takeAllOf 58 = .ok (.aload_n 0, 1) := by decide +kernel
theorem dX0_takeAllOf_59 : decode cX0_takeAllOf 59 = .ok (.getfield 26, 3) := by decide +kernel
theorem dX0_takeAllOf_62 : decode cX0_takeAllOf 62 = .ok (.aload_n 1, 1) := by decide +kernel
theorem dX0_takeAllOf_63 : decode cX0_takeAllOf 63 = .ok (.getfield 26, 3) := by decide +kernel
theorem dX0_takeAllOf_66 : decode cX0_takeAllOf 66 = .ok (.invokestatic 65, 3) := by decide +kernel
theorem dX0_takeAllOf_69 : decode cX0_takeAllOf 69 = .ok (.putfield 26, 3) := by decide +kernel
theorem dX0_takeAllOf_72 : decode cX0_takeAllOf 72 = .ok (.aload_n 0, 1) := by decide +kernel
theorem dX0_takeAllOf_73 : decode cX0_takeAllOf 73 = .ok (.dup, 1) := by decide +kernel
theorem dX0_takeAllOf_74 : decode cX0_takeAllOf 74 = .ok (.getfield 29, 3) := by decide +kernel
theorem dX0_takeAllOf_77 : decode cX0_takeAllOf 77 = .ok (.aload_n 1, 1) := by decide +kernel
theorem dX0_takeAllOf_78 : decode cX0_takeAllOf 78 = .ok (.getfield 29, 3) := by decide +kernel
theorem dX0_takeAllOf_81 : decode cX0_takeAllOf 81 = .ok (.iadd, 1) := by decide +kernel
theorem dX0_takeAllOf_82 : decode cX0_takeAllOf 82 = .ok (.putfield 29, 3) := by decide +kernel
theorem dX0_takeAllOf_85 : decode cX0_takeAllOf 85 = .ok (.return_, 1) := by decide +kernel
theorem dX0_clearGathered_0 : decode cX0_clearGathered 0 = .ok (.aload_n 0, 1) := by decide +kernel
theorem dX0_clearGathered_1 : decode cX0_clearGathered 1 = .ok (.lconst 0, 1) := by decide +kernel
theorem dX0_clearGathered_2 : decode cX0_clearGathered 2 = .ok (.putfield 18, 3) := by decide +kernel
theorem dX0_clearGathered_5 : decode cX0_clearGathered 5 = .ok (.iconst 0, 1) := by decide +kernel
theorem dX0_clearGathered_6 : decode cX0_clearGathered 6 = .ok (.istore_n 1, 1) := by decide +kernel
theorem dX0_clearGathered_7 : decode cX0_clearGathered 7 = .ok (.iload_n 1, 1) := by decide +kernel
theorem dX0_clearGathered_8 : decode cX0_clearGathered 8 = .ok (.aload_n 0, 1) := by decide +kernel
theorem dX0_clearGathered_9 : decode cX0_clearGathered 9 = .ok (.getfield 9, 3) := by decide +kernel
theorem dX0_clearGathered_12 : decode cX0_clearGathered 12 = .ok (.arraylength, 1) := by decide +kernel
theorem dX0_clearGathered_13 : decode cX0_clearGathered 13 = .ok (.if_icmp .ge 19, 3) := by decide +kernel
theorem dX0_clearGathered_16 : decode cX0_clearGathered 16 = .ok (.aload_n 0, 1) := by decide +kernel
theorem dX0_clearGathered_17 : decode cX0_clearGathered 17 = .ok (.getfield 9, 3) := by decide +kernel
theorem dX0_clearGathered_20 : decode cX0_clearGathered 20 = .ok (.iload_n 1, 1) := by decide +kernel
theorem dX0_clearGathered_21 : decode cX0_clearGathered 21 = .ok (.iload_n 1, 1) := by decide +kernel
theorem dX0_clearGathered_22 : decode cX0_clearGathered 22 = .ok (.invokestatic 71, 3) := by decide +kernel
theorem dX0_clearGathered_25 : decode cX0_clearGathered 25 = .ok (.iastore, 1) := by decide +kernel
theorem dX0_clearGathered_26 : decode cX0_clearGathered 26 = .ok (.iinc 1 1, 3) := by decide +kernel
theorem dX0_clearGathered_29 : decode cX0_clearGathered 29 = .ok (.goto (-22), 3) := by decide +kernel
theorem dX0_clearGathered_32 : decode cX0_clearGathered 32 = .ok (.aload_n 0, 1) := by decide +kernel
theorem dX0_clearGathered_33 : decode cX0_clearGathered 33 = .ok (.iconst 0, 1) := by decide +kernel
theorem dX0_clearGathered_34 : decode cX0_clearGathered 34 = .ok (.putfield 22, 3) := by decide +kernel
theorem dX0_clearGathered_37 : decode cX0_clearGathered 37 = .ok (.aload_n 0, 1) := by decide +kernel
theorem dX0_clearGathered_38 : decode cX0_clearGathered 38 = .ok (.iconst 0, 1) := by decide +kernel
theorem dX0_clearGathered_39 : decode cX0_clearGathered 39 = .ok (.putfield 35, 3) := by decide +kernel
theorem dX0_clearGathered_42 : decode cX0_clearGathered 42 = .ok (.return_, 1) := by decide +kernel
theorem dX0_gather_0 : decode cX0_gather 0 = .ok (.aload_n 0, 1) := by decide +kernel
theorem dX0_gather_1 : decode cX0_gather 1 = .ok (.dup, 1) := by decide +kernel
theorem dX0_gather_2 : decode cX0_gather 2 = .ok (.getfield 18, 3) := by decide +kernel
theorem dX0_gather_5 : decode cX0_gather 5 = .ok (.aload_n 1, 1) := by decide +kernel
theorem dX0_gather_6 : decode cX0_gather 6 = .ok (.getfield 18, 3) := by decide +kernel
theorem dX0_gather_9 : decode cX0_gather 9 = .ok (.lor, 1) := by decide +kernel
theorem dX0_gather_10 : decode cX0_gather 10 = .ok (.putfield 18, 3) := by decide +kernel
theorem dX0_gather_13 : decode cX0_gather 13 = .ok (.iconst 0, 1) := by decide +kernel
theorem dX0_gather_14 : decode cX0_gather 14 = .ok (.istore_n 2, 1) := by decide +kernel
theorem dX0_gather_15 : decode cX0_gather 15 = .ok (.iload_n 2, 1) := by decide +kernel
theorem dX0_gather_16 : decode cX0_gather 16 = .ok (.aload_n 0, 1) := by decide +kernel
theorem dX0_gather_17 : decode cX0_gather 17 = .ok (.getfield 9, 3) := by decide +kernel
theorem dX0_gather_20 : decode cX0_gather 20 = .ok (.arraylength, 1) := by decide +kernel
theorem dX0_gather_21 : decode cX0_gather 21 = .ok (.if_icmp .ge 23, 3) := by decide +kernel
theorem dX0_gather_24 : decode cX0_gather 24 = .ok (.aload_n 0, 1) := by decide +kernel
theorem dX0_gather_25 : decode cX0_gather 25 = .ok (.getfield 9, 3) := by decide +kernel
theorem dX0_gather_28 : decode cX0_gather 28 = .ok (.iload_n 2, 1) := by decide +kernel
theorem dX0_gather_29 : decode cX0_gather 29 = .ok (.dup2, 1) := by decide +kernel
theorem dX0_gather_30 : decode cX0_gather 30 = .ok (.iaload, 1) := by decide +kernel
theorem dX0_gather_31 : decode cX0_gather 31 = .ok (.aload_n 1, 1) := by decide +kernel
theorem dX0_gather_32 : decode cX0_gather 32 = .ok (.iload_n 2, 1) := by decide +kernel
theorem dX0_gather_33 : decode cX0_gather 33 = .ok (.invokevirtual 58, 3) := by decide +kernel
theorem dX0_gather_36 : decode cX0_gather 36 = .ok (.iand, 1) := by decide +kernel
theorem dX0_gather_37 : decode cX0_gather 37 = .ok (.iastore, 1) := by decide +kernel
theorem dX0_gather_38 : decode cX0_gather 38 = .ok (.iinc 2 1, 3) := by decide +kernel
theorem dX0_gather_41 : decode cX0_gather 41 = .ok (.goto (-26), 3) := by decide +kernel
theorem dX0_gather_44 : decode cX0_gather 44 = .ok (.aload_n 0, 1) := by decide +kernel
theorem dX0_gather_45 : decode cX0_gather 45 = .ok (.dup, 1) := by decide +kernel
theorem dX0_gather_46 : decode cX0_gather 46 = .ok (.getfield 22, 3) := by decide +kernel
theorem dX0_gather_49 : decode cX0_gather 49 = .ok (.aload_n 1, 1) := by decide +kernel
theorem dX0_gather_50 : decode cX0_gather 50 = .ok (.getfield 22, 3) := by decide +kernel
theorem dX0_gather_53 : decode cX0_gather 53 = .ok (.ior, 1) := by decide +kernel
theorem dX0_gather_54 : decode cX0_gather 54 = .ok (.putfield 22, 3) := by decide +kernel
theorem dX0_gather_57 : decode cX0_gather 57 = .ok (.aload_n 0, 1) := by decide +kernel
theorem dX0_gather_58 : decode cX0_gather 58 = .ok (.aload_n 0, 1) := by decide +kernel
theorem dX0_gather_59 : decode cX0_gather 59 = .ok (.getfield 35, 3) := by decide +kernel
theorem dX0_gather_62 : decode cX0_gather 62 = .ok (.ifCond .ne 10, 3) := by decide +kernel
theorem dX0_gather_65 : decode cX0_gather 65 = .ok (.aload_n 1, 1) := by decide +kernel
theorem dX0_gather_66 : decode cX0_gather 66 = .ok (.getfield 35, 3) := by decide +kernel
theorem dX0_gather_69 : decode cX0_gather 69 = .ok (.ifCond .eq 7, 3) := by decide +kernel
theorem dX0_gather_72 : decode cX0_gather 72 = .ok (.iconst 1, 1) := by decide +kernel
theorem dX0_gather_73 : decode cX0_gather 73 = .ok (.goto 4, 3) := by decide +kernel
theorem dX0_gather_76 : decode cX0_gather 76 = .ok (.iconst 0, 1) := by decide +kernel
theorem dX0_gather_77 : decode cX0_gather 77 = .ok (.putfield 35, 3) := by decide +kernel
theorem dX0_gather_80 : decode cX0_gather 80 = .ok (.return_, 1) := by decide +kernel
theorem dX1_init_0 : decode cX1_init 0 = .ok (.aload_n 0, 1) := by decide +kernel
theorem dX1_init_1 : decode cX1_init 1 = .ok (.invokespecial 3, 3) := by decide +kernel
theorem dX1_init_4 : decode cX1_init 4 = .ok (.aload_n 0, 1) := by decide +kernel
theorem dX1_init_5 : decode cX1_init 5 = .ok (.iconst 3, 1) := by decide +kernel
theorem dX1_init_6 : decode cX1_init 6 = .ok (.newarray .int, 2) := by decide +kernel
theorem dX1_init_8 : decode cX1_init 8 = .ok (.putfield 9, 3) := by decide +kernel
theorem dX1_init_11 : decode cX1_init 11 = .ok (.aload_n 0, 1) := by decide +kernel
theorem dX1_init_12 : decode cX1_init 12 = .ok (.lconst 0, 1) := by decide +kernel
theorem dX1_init_13 : decode cX1_init 13 = .ok (.putfield 15, 3) := by decide +kernel
theorem dX1_init_16 : decode cX1_init 16 = .ok (.aload_n 0, 1) := by decide +kernel
theorem dX1_init_17 : decode cX1_init 17 = .ok (.lload_n 1, 1) := by decide +kernel
theorem dX1_init_18 : decode cX1_init 18 = .ok (.putfield 19, 3) := by decide +kernel
theorem dX1_init_21 : decode cX1_init 21 = .ok (.iconst 0, 1) := by decide +kernel
theorem dX1_init_22 : decode cX1_init 22 = .ok (.istore 6, 2) := by decide +kernel
theorem dX1_init_24 : decode cX1_init 24 = .ok (.iload 6, 2) := by decide +kernel
theorem dX1_init_26 : decode cX1_init 26 = .ok (.aload_n 0, 1) := by decide +kernel
theorem dX1_init_27 : decode cX1_init 27 = .ok (.getfield 9, 3) := by decide +kernel
theorem dX1_init_30 : decode cX1_init 30 = .ok (.arraylength, 1) := by decide +kernel
theorem dX1_init_31 : decode cX1_init 31 = .ok (.if_icmp .ge 38, 3) := by decide +kernel
theorem dX1_init_34 : decode cX1_init 34 = .ok (.aload_n 0, 1) := by decide +kernel
theorem dX1_init_35 : decode cX1_init 35 = .ok (.getfield 9, 3) := by decide +kernel
theorem dX1_init_38 : decode cX1_init 38 = .ok (.iload 6, 2) := by decide +kernel
theorem dX1_init_40 : decode cX1_init 40 = .ok (.iload 6, 2) := by decide +kernel
theorem dX1_init_42 : decode cX1_init 42 = .ok (.ifCond .ne 7, 3) := by decide +kernel
theorem dX1_init_45 : decode cX1_init 45 = .ok (.iload_n 3, 1) := by decide +kernel
theorem dX1_init_46 : decode cX1_init 46 = .ok (.goto 16, 3) := by decide +kernel
theorem dX1_init_49 : decode cX1_init 49 = .ok (.iload 6, 2) := by decide +kernel
theorem dX1_init_51 : decode cX1_init 51 = .ok (.iconst 1, 1) := by decide +kernel
theorem dX1_init_52 : decode cX1_init 52 = .ok (.if_icmp .ne 8, 3) := by decide +kernel
theorem dX1_init_55 : decode cX1_init 55 = .ok (.iload 4, 2) := by decide +kernel
theorem dX1_init_57 : decode cX1_init 57 = .ok (.goto 5, 3) := by decide +kernel
theorem dX1_init_60 : decode cX1_init 60 = .ok (.iload 5, 2) := by decide +kernel
theorem dX1_init_62 : decode cX1_init 62 = .ok (.iastore, 1) := by decide +kernel
theorem dX1_init_63 : decode cX1_init 63 = .ok (.iinc 6 1, 3) := by decide +kernel
theorem dX1_init_66 : decode cX1_init 66 = .ok (.goto (-42), 3) := by decide +kernel
theorem dX1_init_69 : decode cX1_init 69 = .ok (.return_, 1) := by decide +kernel
theorem dX1_valueFor_0 : decode cX1_valueFor 0 = .ok (.iload_n 1, 1) := by decide +kernel
theorem dX1_valueFor_1 : decode cX1_valueFor 1 = .ok (.ifCond .lt 21, 3) := by decide +kernel
theorem dX1_valueFor_4 : decode cX1_valueFor 4 = .ok (.iload_n 1, 1) := by decide +kernel
theorem dX1_valueFor_5 : decode cX1_valueFor 5 = .ok (.aload_n 0, 1) := by decide +kernel
theorem dX1_valueFor_6 : decode cX1_valueFor 6 = .ok (.getfield 9, 3) := by decide +kernel
theorem dX1_valueFor_9 : decode cX1_valueFor 9 = .ok (.arraylength, 1) := by decide +kernel
theorem dX1_valueFor_10 : decode cX1_valueFor 10 = .ok (.if_icmp .ge 12, 3) := by decide +kernel
theorem dX1_valueFor_13 : decode cX1_valueFor 13 = .ok (.aload_n 0, 1) := by decide +kernel
theorem dX1_valueFor_14 : decode cX1_valueFor 14 = .ok (.getfield 9, 3) := by decide +kernel
theorem dX1_valueFor_17 : decode cX1_valueFor 17 = .ok (.iload_n 1, 1) := by decide +kernel
theorem dX1_valueFor_18 : decode cX1_valueFor 18 = .ok (.iaload, 1) := by decide +kernel
theorem dX1_valueFor_19 : decode cX1_valueFor 19 = .ok (.goto 4, 3) := by decide +kernel
theorem dX1_valueFor_22 : decode cX1_valueFor 22 = .ok (.iconst (-1), 1) := by decide +kernel
theorem dX1_valueFor_23 : decode cX1_valueFor 23 = .ok (.ireturn, 1) := by decide +kernel
theorem dX2_init_0 : decode cX2_init 0 = .ok (.aload_n 0, 1) := by decide +kernel
theorem dX2_init_1 : decode cX2_init 1 = .ok (.invokespecial 3, 3) := by decide +kernel
theorem dX2_init_4 : decode cX2_init 4 = .ok (.aload_n 0, 1) := by decide +kernel
theorem dX2_init_5 : decode cX2_init 5 = .ok (.bipush 40, 2) := by decide +kernel
theorem dX2_init_7 : decode cX2_init 7 = .ok (.newarray .int, 2) := by decide +kernel
theorem dX2_init_9 : decode cX2_init 9 = .ok (.putfield 9, 3) := by decide +kernel
theorem dX2_init_12 : decode cX2_init 12 = .ok (.iconst 0, 1) := by decide +kernel
theorem dX2_init_13 : decode cX2_init 13 = .ok (.istore_n 1, 1) := by decide +kernel
theorem dX2_init_14 : decode cX2_init 14 = .ok (.iload_n 1, 1) := by decide +kernel
theorem dX2_init_15 : decode cX2_init 15 = .ok (.aload_n 0, 1) := by decide +kernel
theorem dX2_init_16 : decode cX2_init 16 = .ok (.getfield 9, 3) := by decide +kernel
theorem dX2_init_19 : decode cX2_init 19 = .ok (.arraylength, 1) := by decide +kernel
theorem dX2_init_20 : decode cX2_init 20 = .ok (.if_icmp .ge 16, 3) := by decide +kernel
theorem dX2_init_23 : decode cX2_init 23 = .ok (.aload_n 0, 1) := by decide +kernel
theorem dX2_init_24 : decode cX2_init 24 = .ok (.getfield 9, 3) := by decide +kernel
theorem dX2_init_27 : decode cX2_init 27 = .ok (.iload_n 1, 1) := by decide +kernel
theorem dX2_init_28 : decode cX2_init 28 = .ok (.iload_n 1, 1) := by decide +kernel
theorem dX2_init_29 : decode cX2_init 29 = .ok (.iastore, 1) := by decide +kernel
theorem dX2_init_30 : decode cX2_init 30 = .ok (.iinc 1 1, 3) := by decide +kernel
theorem dX2_init_33 : decode cX2_init 33 = .ok (.goto (-19), 3) := by decide +kernel
theorem dX2_init_36 : decode cX2_init 36 = .ok (.return_, 1) := by decide +kernel
theorem dX2_foldOf_0 : decode cX2_foldOf 0 = .ok (.iload_n 1, 1) := by decide +kernel
theorem dX2_foldOf_1 : decode cX2_foldOf 1 = .ok (.ifCond .lt 21, 3) := by decide +kernel
theorem dX2_foldOf_4 : decode cX2_foldOf 4 = .ok (.iload_n 1, 1) := by decide +kernel
theorem dX2_foldOf_5 : decode cX2_foldOf 5 = .ok (.aload_n 0, 1) := by decide +kernel
theorem dX2_foldOf_6 : decode cX2_foldOf 6 = .ok (.getfield 9, 3) := by decide +kernel
theorem dX2_foldOf_9 : decode cX2_foldOf 9 = .ok (.arraylength, 1) := by decide +kernel
theorem dX2_foldOf_10 : decode cX2_foldOf 10 = .ok (.if_icmp .ge 12, 3) := by decide +kernel
theorem dX2_foldOf_13 : decode cX2_foldOf 13 = .ok (.aload_n 0, 1) := by decide +kernel
theorem dX2_foldOf_14 : decode cX2_foldOf 14 = .ok (.getfield 9, 3) := by decide +kernel
theorem dX2_foldOf_17 : decode cX2_foldOf 17 = .ok (.iload_n 1, 1) := by decide +kernel
theorem dX2_foldOf_18 : decode cX2_foldOf 18 = .ok (.iaload, 1) := by decide +kernel
theorem dX2_foldOf_19 : decode cX2_foldOf 19 = .ok (.goto 4, 3) := by decide +kernel
theorem dX2_foldOf_22 : decode cX2_foldOf 22 = .ok (.iconst (-1), 1) := by decide +kernel
theorem dX2_foldOf_23 : decode cX2_foldOf 23 = .ok (.ireturn, 1) := by decide +kernel
theorem dX2_turn_0 : decode cX2_turn 0 = .ok (.iload_n 1, 1) := by decide +kernel
theorem dX2_turn_1 : decode cX2_turn 1 = .ok (.ifCond .lt 19, 3) := by decide +kernel
theorem dX2_turn_4 : decode cX2_turn 4 = .ok (.iload_n 1, 1) := by decide +kernel
theorem dX2_turn_5 : decode cX2_turn 5 = .ok (.aload_n 0, 1) := by decide +kernel
theorem dX2_turn_6 : decode cX2_turn 6 = .ok (.getfield 9, 3) := by decide +kernel
theorem dX2_turn_9 : decode cX2_turn 9 = .ok (.arraylength, 1) := by decide +kernel
theorem dX2_turn_10 : decode cX2_turn 10 = .ok (.if_icmp .ge 10, 3) := by decide +kernel
theorem dX2_turn_13 : decode cX2_turn 13 = .ok (.aload_n 0, 1) := by decide +kernel
theorem dX2_turn_14 : decode cX2_turn 14 = .ok (.getfield 9, 3) := by decide +kernel
theorem dX2_turn_17 : decode cX2_turn 17 = .ok (.iload_n 1, 1) := by decide +kernel
theorem dX2_turn_18 : decode cX2_turn 18 = .ok (.iload_n 2, 1) := by decide +kernel
theorem dX2_turn_19 : decode cX2_turn 19 = .ok (.iastore, 1) := by decide +kernel
theorem dX2_turn_20 : decode cX2_turn 20 = .ok (.return_, 1) := by decide +kernel
theorem dX2_folded_0 : decode cX2_folded 0 = .ok (.lconst 0, 1) := by decide +kernel
theorem dX2_folded_1 : decode cX2_folded 1 = .ok (.lstore_n 3, 1) := by decide +kernel
theorem dX2_folded_2 : decode cX2_folded 2 = .ok (.iconst 0, 1) := by decide +kernel
theorem dX2_folded_3 : decode cX2_folded 3 = .ok (.istore 5, 2) := by decide +kernel
theorem dX2_folded_5 : decode cX2_folded 5 = .ok (.iload 5, 2) := by decide +kernel
theorem dX2_folded_7 : decode cX2_folded 7 = .ok (.aload_n 0, 1) := by decide +kernel
theorem dX2_folded_8 : decode cX2_folded 8 = .ok (.getfield 9, 3) := by decide +kernel
theorem dX2_folded_11 : decode cX2_folded 11 = .ok (.arraylength, 1) := by decide +kernel
theorem dX2_folded_12 : decode cX2_folded 12 = .ok (.if_icmp .ge 32, 3) := by decide +kernel
theorem dX2_folded_15 : decode cX2_folded 15 = .ok (.lload_n 1, 1) := by decide +kernel
theorem dX2_folded_16 : decode cX2_folded 16 = .ok (.lconst 1, 1) := by decide +kernel
theorem dX2_folded_17 : decode cX2_folded 17 = .ok (.iload 5, 2) := by decide +kernel
theorem dX2_folded_19 : decode cX2_folded 19 = .ok (.lshl, 1) := by decide +kernel
theorem dX2_folded_20 : decode cX2_folded 20 = .ok (.land, 1) := by decide +kernel
theorem dX2_folded_21 : decode cX2_folded 21 = .ok (.lconst 0, 1) := by decide +kernel
theorem dX2_folded_22 : decode cX2_folded 22 = .ok (.lcmp, 1) := by decide +kernel
theorem dX2_folded_23 : decode cX2_folded 23 = .ok (.ifCond .eq 15, 3) := by decide +kernel
theorem dX2_folded_26 : decode cX2_folded 26 = .ok (.lload_n 3, 1) := by decide +kernel
theorem dX2_folded_27 : decode cX2_folded 27 = .ok (.lconst 1, 1) := by decide +kernel
theorem dX2_folded_28 : decode cX2_folded 28 = .ok (.aload_n 0, 1) := by decide +kernel
theorem dX2_folded_29 : decode cX2_folded 29 = .ok (.getfield 9, 3) := by decide +kernel
theorem dX2_folded_32 : decode cX2_folded 32 = .ok (.iload 5, 2) := by decide +kernel
theorem dX2_folded_34 : decode cX2_folded 34 = .ok (.iaload, 1) := by decide +kernel
theorem dX2_folded_35 : decode cX2_folded 35 = .ok (.lshl, 1) := by decide +kernel
theorem dX2_folded_36 : decode cX2_folded 36 = .ok (.lor, 1) := by decide +kernel
theorem dX2_folded_37 : decode cX2_folded 37 = .ok (.lstore_n 3, 1) := by decide +kernel
theorem dX2_folded_38 : decode cX2_folded 38 = .ok (.iinc 5 1, 3) := by decide +kernel
theorem dX2_folded_41 : decode cX2_folded 41 = .ok (.goto (-36), 3) := by decide +kernel
theorem dX2_folded_44 : decode cX2_folded 44 = .ok (.lload_n 3, 1) := by decide +kernel
theorem dX2_folded_45 : decode cX2_folded 45 = .ok (.lreturn, 1) := by decide +kernel
theorem dX3_init_0 : decode cX3_init 0 = .ok (.aload_n 0, 1) := by decide +kernel
theorem dX3_init_1 : decode cX3_init 1 = .ok (.invokespecial 3, 3) := by decide +kernel
theorem dX3_init_4 : decode cX3_init 4 = .ok (.aload_n 0, 1) := by decide +kernel
theorem dX3_init_5 : decode cX3_init 5 = .ok (.bipush 10, 2) := by decide +kernel
theorem dX3_init_7 : decode cX3_init 7 = .ok (.newarray .int, 2) := by decide +kernel
theorem dX3_init_9 : decode cX3_init 9 = .ok (.putfield 9, 3) := by decide +kernel
theorem dX3_init_12 : decode cX3_init 12 = .ok (.aload_n 0, 1) := by decide +kernel
theorem dX3_init_13 : decode cX3_init 13 = .ok (.bipush 10, 2) := by decide +kernel
theorem dX3_init_15 : decode cX3_init 15 = .ok (.newarray .int, 2) := by decide +kernel
theorem dX3_init_17 : decode cX3_init 17 = .ok (.putfield 15, 3) := by decide +kernel
theorem dX3_init_20 : decode cX3_init 20 = .ok (.aload_n 0, 1) := by decide +kernel
theorem dX3_init_21 : decode cX3_init 21 = .ok (.iconst 0, 1) := by decide +kernel
theorem dX3_init_22 : decode cX3_init 22 = .ok (.putfield 18, 3) := by decide +kernel
theorem dX3_init_25 : decode cX3_init 25 = .ok (.return_, 1) := by decide +kernel
theorem dX3_now_0 : decode cX3_now 0 = .ok (.aload_n 0, 1) := by decide +kernel
theorem dX3_now_1 : decode cX3_now 1 = .ok (.getfield 18, 3) := by decide +kernel
theorem dX3_now_4 : decode cX3_now 4 = .ok (.ireturn, 1) := by decide +kernel
theorem dX3_change_0 : decode cX3_change 0 = .ok (.iload_n 1, 1) := by decide +kernel
theorem dX3_change_1 : decode cX3_change 1 = .ok (.ifCond .lt 21, 3) := by decide +kernel
theorem dX3_change_4 : decode cX3_change 4 = .ok (.iload_n 1, 1) := by decide +kernel
theorem dX3_change_5 : decode cX3_change 5 = .ok (.aload_n 0, 1) := by decide +kernel
theorem dX3_change_6 : decode cX3_change 6 = .ok (.getfield 9, 3) := by decide +kernel
theorem dX3_change_9 : decode cX3_change 9 = .ok (.arraylength, 1) := by decide +kernel
theorem dX3_change_10 : decode cX3_change 10 = .ok (.if_icmp .ge 12, 3) := by decide +kernel
theorem dX3_change_13 : decode cX3_change 13 = .ok (.iload_n 1, 1) := by decide +kernel
theorem dX3_change_14 : decode cX3_change 14 = .ok (.aload_n 0, 1) := by decide +kernel
theorem dX3_change_15 : decode cX3_change 15 = .ok (.getfield 15, 3) := by decide +kernel
theorem dX3_change_18 : decode cX3_change 18 = .ok (.arraylength, 1) := by decide +kernel
theorem dX3_change_19 : decode cX3_change 19 = .ok (.if_icmp .lt 7, 3) := by decide +kernel
theorem dX3_change_22 : decode cX3_change 22 = .ok (.sipush (-1001), 3) := by decide +kernel
theorem dX3_change_25 : decode cX3_change 25 = .ok (.ireturn, 1) := by decide +kernel
theorem dX3_change_26 : decode cX3_change 26 = .ok (.aload_n 0, 1) := by decide +kernel
theorem dX3_change_27 : decode cX3_change 27 = .ok (.dup, 1) := by decide +kernel
theorem dX3_change_28 : decode cX3_change 28 = .ok (.getfield 18, 3) := by decide +kernel
theorem dX3_change_31 : decode cX3_change 31 = .ok (.iconst 1, 1) := by decide +kernel
theorem dX3_change_32 : decode cX3_change 32 = .ok (.iadd, 1) := by decide +kernel
theorem dX3_change_33 : decode cX3_change 33 = .ok (.putfield 18, 3) := by decide +kernel
theorem dX3_change_36 : decode cX3_change 36 = .ok (.aload_n 0, 1) := by decide +kernel
theorem dX3_change_37 : decode cX3_change 37 = .ok (.getfield 15, 3) := by decide +kernel
theorem dX3_change_40 : decode cX3_change 40 = .ok (.iload_n 1, 1) := by decide +kernel
theorem dX3_change_41 : decode cX3_change 41 = .ok (.aload_n 0, 1) := by decide +kernel
theorem dX3_change_42 : decode cX3_change 42 = .ok (.getfield 18, 3) := by decide +kernel
theorem dX3_change_45 : decode cX3_change 45 = .ok (.iastore, 1) := by decide +kernel
theorem dX3_change_46 : decode cX3_change 46 = .ok (.aload_n 0, 1) := by decide +kernel
theorem dX3_change_47 : decode cX3_change 47 = .ok (.getfield 9, 3) := by decide +kernel
theorem dX3_change_50 : decode cX3_change 50 = .ok (.iload_n 1, 1) := by decide +kernel
theorem dX3_change_51 : decode cX3_change 51 = .ok (.dup2, 1) := by decide +kernel
theorem dX3_change_52 : decode cX3_change 52 = .ok (.iaload, 1) := by decide +kernel
theorem dX3_change_53 : decode cX3_change 53 = .ok (.iconst 1, 1) := by decide +kernel
theorem dX3_change_54 : decode cX3_change 54 = .ok (.iadd, 1) := by decide +kernel
theorem dX3_change_55 : decode cX3_change 55 = .ok (.iastore, 1) := by decide +kernel
theorem dX3_change_56 : decode cX3_change 56 = .ok (.aload_n 0, 1) := by decide +kernel
theorem dX3_change_57 : decode cX3_change 57 = .ok (.getfield 9, 3) := by decide +kernel
theorem dX3_change_60 : decode cX3_change 60 = .ok (.iload_n 1, 1) := by decide +kernel
theorem dX3_change_61 : decode cX3_change 61 = .ok (.iaload, 1) := by decide +kernel
theorem dX3_change_62 : decode cX3_change 62 = .ok (.ireturn, 1) := by decide +kernel
theorem dX3_isChangedSince_0 : decode cX3_isChangedSince 0 = .ok (.iconst 0, 1) := by decide +kernel
theorem dX3_isChangedSince_1 : decode cX3_isChangedSince 1 = .ok (.istore_n 3, 1) := by decide +kernel
theorem dX3_isChangedSince_2 : decode cX3_isChangedSince 2 = .ok (.iload_n 3, 1) := by decide +kernel
theorem dX3_isChangedSince_3 : decode cX3_isChangedSince 3 = .ok (.aload_n 0, 1) := by decide +kernel
theorem dX3_isChangedSince_4 : decode cX3_isChangedSince 4 = .ok (.getfield 15, 3) := by decide +kernel
theorem dX3_isChangedSince_7 : decode cX3_isChangedSince 7 = .ok (.arraylength, 1) := by decide +kernel
theorem dX3_isChangedSince_8 : decode cX3_isChangedSince 8 = .ok (.if_icmp .ge 30, 3) := by decide +kernel
theorem dX3_isChangedSince_11 : decode cX3_isChangedSince 11 = .ok (.iload_n 1, 1) := by decide +kernel
theorem dX3_isChangedSince_12 : decode cX3_isChangedSince 12 = .ok (.iload_n 3, 1) := by decide +kernel
theorem dX3_isChangedSince_13 : decode cX3_isChangedSince 13 = .ok (.invokestatic 22, 3) := by decide +kernel
theorem dX3_isChangedSince_16 : decode cX3_isChangedSince 16 = .ok (.iand, 1) := by decide +kernel
theorem dX3_isChangedSince_17 : decode cX3_isChangedSince 17 = .ok (.ifCond .eq 15, 3) := by decide +kernel
theorem dX3_isChangedSince_20 : decode cX3_isChangedSince 20 = .ok (.aload_n 0, 1) := by decide +kernel
theorem dX3_isChangedSince_21 : decode cX3_isChangedSince 21 = .ok (.getfield 15, 3) := by decide +kernel
theorem dX3_isChangedSince_24 : decode cX3_isChangedSince 24 = .ok (.iload_n 3, 1) := by decide +kernel
theorem dX3_isChangedSince_25 : decode cX3_isChangedSince 25 = .ok (.iaload, 1) := by decide +kernel
theorem dX3_isChangedSince_26 : decode cX3_isChangedSince 26 = .ok (.iload_n 2, 1) := by decide +kernel
theorem dX3_isChangedSince_27 : decode cX3_isChangedSince 27 = .ok (.if_icmp .le 5, 3) := by decide +kernel
theorem dX3_isChangedSince_30 : decode cX3_isChangedSince 30 = .ok (.iconst 1, 1) := by decide +kernel
theorem dX3_isChangedSince_31 : decode cX3_isChangedSince 31 = .ok (.ireturn, 1) := by decide +kernel
theorem dX3_isChangedSince_32 : decode cX3_isChangedSince 32 = .ok (.iinc 3 1, 3) := by decide +kernel
theorem dX3_isChangedSince_35 : decode cX3_isChangedSince 35 = .ok (.goto (-33), 3) := by decide +kernel
theorem dX3_isChangedSince_38 : decode cX3_isChangedSince 38 = .ok (.iconst 0, 1) := by decide +kernel
theorem dX3_isChangedSince_39 : decode cX3_isChangedSince 39 = .ok (.ireturn, 1) := by decide +kernel
theorem dJ6_bitCount_0f7a4_0 : decode cJ6_bitCount_0f7a4 0 = .ok (.iload_n 0, 1) := by decide +kernel
theorem dJ6_bitCount_0f7a4_1 : decode cJ6_bitCount_0f7a4 1 = .ok (.iload_n 0, 1) := by decide +kernel
theorem dJ6_bitCount_0f7a4_2 : decode cJ6_bitCount_0f7a4 2 = .ok (.iconst 1, 1) := by decide +kernel
theorem dJ6_bitCount_0f7a4_3 : decode cJ6_bitCount_0f7a4 3 = .ok (.iushr, 1) := by decide +kernel
theorem dJ6_bitCount_0f7a4_4 : decode cJ6_bitCount_0f7a4 4 = .ok (.ldc_w 265, 3) := by decide +kernel
theorem dJ6_bitCount_0f7a4_7 : decode cJ6_bitCount_0f7a4 7 = .ok (.iand, 1) := by decide +kernel
theorem dJ6_bitCount_0f7a4_8 : decode cJ6_bitCount_0f7a4 8 = .ok (.isub, 1) := by decide +kernel
theorem dJ6_bitCount_0f7a4_9 : decode cJ6_bitCount_0f7a4 9 = .ok (.istore_n 0, 1) := by decide +kernel
theorem dJ6_bitCount_0f7a4_10 : decode cJ6_bitCount_0f7a4 10 = .ok (.iload_n 0, 1) := by decide +kernel
theorem dJ6_bitCount_0f7a4_11 : decode cJ6_bitCount_0f7a4 11 = .ok (.ldc_w 266, 3) := by decide +kernel
theorem dJ6_bitCount_0f7a4_14 : decode cJ6_bitCount_0f7a4 14 = .ok (.iand, 1) := by decide +kernel
theorem dJ6_bitCount_0f7a4_15 : decode cJ6_bitCount_0f7a4 15 = .ok (.iload_n 0, 1) := by decide +kernel
theorem dJ6_bitCount_0f7a4_16 : decode cJ6_bitCount_0f7a4 16 = .ok (.iconst 2, 1) := by decide +kernel
theorem dJ6_bitCount_0f7a4_17 : decode cJ6_bitCount_0f7a4 17 = .ok (.iushr, 1) := by decide +kernel
theorem dJ6_bitCount_0f7a4_18 : decode cJ6_bitCount_0f7a4 18 = .ok (.ldc_w 266, 3) := by decide +kernel
theorem dJ6_bitCount_0f7a4_21 : decode cJ6_bitCount_0f7a4 21 = .ok (.iand, 1) := by decide +kernel
theorem dJ6_bitCount_0f7a4_22 : decode cJ6_bitCount_0f7a4 22 = .ok (.iadd, 1) := by decide +kernel
theorem dJ6_bitCount_0f7a4_23 : decode cJ6_bitCount_0f7a4 23 = .ok (.istore_n 0, 1) := by decide +kernel
theorem dJ6_bitCount_0f7a4_24 : decode cJ6_bitCount_0f7a4 24 = .ok (.iload_n 0, 1) := by decide +kernel
theorem dJ6_bitCount_0f7a4_25 : decode cJ6_bitCount_0f7a4 25 = .ok (.iload_n 0, 1) := by decide +kernel
theorem dJ6_bitCount_0f7a4_26 : decode cJ6_bitCount_0f7a4 26 = .ok (.iconst 4, 1) := by decide +kernel
theorem dJ6_bitCount_0f7a4_27 : decode cJ6_bitCount_0f7a4 27 = .ok (.iushr, 1) := by decide +kernel
theorem dJ6_bitCount_0f7a4_28 : decode cJ6_bitCount_0f7a4 28 = .ok (.iadd, 1) := by decide +kernel
theorem dJ6_bitCount_0f7a4_29 : decode cJ6_bitCount_0f7a4 29 = .ok (.ldc_w 267, 3) := by decide +kernel
theorem dJ6_bitCount_0f7a4_32 : decode cJ6_bitCount_0f7a4 32 = .ok (.iand, 1) := by decide +kernel
theorem dJ6_bitCount_0f7a4_33 : decode cJ6_bitCount_0f7a4 33 = .ok (.istore_n 0, 1) := by decide +kernel
theorem dJ6_bitCount_0f7a4_34 : decode cJ6_bitCount_0f7a4 34 = .ok (.iload_n 0, 1) := by decide +kernel
theorem dJ6_bitCount_0f7a4_35 : decode cJ6_bitCount_0f7a4 35 = .ok (.iload_n 0, 1) := by decide +kernel
theorem dJ6_bitCount_0f7a4_36 : decode cJ6_bitCount_0f7a4 36 = .ok (.bipush 8, 2) := by decide +kernel
theorem dJ6_bitCount_0f7a4_38 : decode cJ6_bitCount_0f7a4 38 = .ok (.iushr, 1) := by decide +kernel
theorem dJ6_bitCount_0f7a4_39 : decode cJ6_bitCount_0f7a4 39 = .ok (.iadd, 1) := by decide +kernel
theorem dJ6_bitCount_0f7a4_40 : decode cJ6_bitCount_0f7a4 40 = .ok (.istore_n 0, 1) := by decide +kernel
theorem dJ6_bitCount_0f7a4_41 : decode cJ6_bitCount_0f7a4 41 = .ok (.iload_n 0, 1) := by decide +kernel
theorem dJ6_bitCount_0f7a4_42 : decode cJ6_bitCount_0f7a4 42 = .ok (.iload_n 0, 1) := by decide +kernel
theorem dJ6_bitCount_0f7a4_43 : decode cJ6_bitCount_0f7a4 43 = .ok (.bipush 16, 2) := by decide +kernel
theorem dJ6_bitCount_0f7a4_45 : decode cJ6_bitCount_0f7a4 45 = .ok (.iushr, 1) := by decide +kernel
theorem dJ6_bitCount_0f7a4_46 : decode cJ6_bitCount_0f7a4 46 = .ok (.iadd, 1) := by decide +kernel
theorem dJ6_bitCount_0f7a4_47 : decode cJ6_bitCount_0f7a4 47 = .ok (.istore_n 0, 1) := by decide +kernel
theorem dJ6_bitCount_0f7a4_48 : decode cJ6_bitCount_0f7a4 48 = .ok (.iload_n 0, 1) := by decide +kernel
theorem dJ6_bitCount_0f7a4_49 : decode cJ6_bitCount_0f7a4 49 = .ok (.bipush 63, 2) := by decide +kernel
theorem dJ6_bitCount_0f7a4_51 : decode cJ6_bitCount_0f7a4 51 = .ok (.iand, 1) := by decide +kernel
theorem dJ6_bitCount_0f7a4_52 : decode cJ6_bitCount_0f7a4 52 = .ok (.ireturn, 1) := by decide +kernel
theorem dJ13_bitCount_95d88_0 : decode cJ13_bitCount_95d88 0 = .ok (.lload_n 0, 1) := by decide +kernel
theorem dJ13_bitCount_95d88_1 : decode cJ13_bitCount_95d88 1 = .ok (.lload_n 0, 1) := by decide +kernel
theorem dJ13_bitCount_95d88_2 : decode cJ13_bitCount_95d88 2 = .ok (.iconst 1, 1) := by decide +kernel
theorem dJ13_bitCount_95d88_3 : decode cJ13_bitCount_95d88 3 = .ok (.lushr, 1) := by decide +kernel
theorem dJ13_bitCount_95d88_4 : decode cJ13_bitCount_95d88 4 = .ok (.ldc2_w 314, 3) := by decide +kernel
theorem dJ13_bitCount_95d88_7 : decode cJ13_bitCount_95d88 7 = .ok (.land, 1) := by decide +kernel
theorem dJ13_bitCount_95d88_8 : decode cJ13_bitCount_95d88 8 = .ok (.lsub, 1) := by decide +kernel
theorem dJ13_bitCount_95d88_9 : decode cJ13_bitCount_95d88 9 = .ok (.lstore_n 0, 1) := by decide +kernel
theorem dJ13_bitCount_95d88_10 : decode cJ13_bitCount_95d88 10 = .ok (.lload_n 0, 1) := by decide +kernel
theorem dJ13_bitCount_95d88_11 : decode cJ13_bitCount_95d88 11 = .ok (.ldc2_w 316, 3) := by decide +kernel
theorem dJ13_bitCount_95d88_14 : decode cJ13_bitCount_95d88 14 = .ok (.land, 1) := by decide +kernel
theorem dJ13_bitCount_95d88_15 : decode cJ13_bitCount_95d88 15 = .ok (.lload_n 0, 1) := by decide +kernel
theorem dJ13_bitCount_95d88_16 : decode cJ13_bitCount_95d88 16 = .ok (.iconst 2, 1) := by decide +kernel
theorem dJ13_bitCount_95d88_17 : decode cJ13_bitCount_95d88 17 = .ok (.lushr, 1) := by decide +kernel
theorem dJ13_bitCount_95d88_18 : decode cJ13_bitCount_95d88 18 = .ok (.ldc2_w 316, 3) := by decide +kernel
theorem dJ13_bitCount_95d88_21 : decode cJ13_bitCount_95d88 21 = .ok (.land, 1) := by decide +kernel
theorem dJ13_bitCount_95d88_22 : decode cJ13_bitCount_95d88 22 = .ok (.ladd, 1) := by decide +kernel
theorem dJ13_bitCount_95d88_23 : decode cJ13_bitCount_95d88 23 = .ok (.lstore_n 0, 1) := by decide +kernel
theorem dJ13_bitCount_95d88_24 : decode cJ13_bitCount_95d88 24 = .ok (.lload_n 0, 1) := by decide +kernel
theorem dJ13_bitCount_95d88_25 : decode cJ13_bitCount_95d88 25 = .ok (.lload_n 0, 1) := by decide +kernel
theorem dJ13_bitCount_95d88_26 : decode cJ13_bitCount_95d88 26 = .ok (.iconst 4, 1) := by decide +kernel
theorem dJ13_bitCount_95d88_27 : decode cJ13_bitCount_95d88 27 = .ok (.lushr, 1) := by decide +kernel
theorem dJ13_bitCount_95d88_28 : decode cJ13_bitCount_95d88 28 = .ok (.ladd, 1) := by decide +kernel
theorem dJ13_bitCount_95d88_29 : decode cJ13_bitCount_95d88 29 = .ok (.ldc2_w 318, 3) := by decide +kernel
theorem dJ13_bitCount_95d88_32 : decode cJ13_bitCount_95d88 32 = .ok (.land, 1) := by decide +kernel
theorem dJ13_bitCount_95d88_33 : decode cJ13_bitCount_95d88 33 = .ok (.lstore_n 0, 1) := by decide +kernel
theorem dJ13_bitCount_95d88_34 : decode cJ13_bitCount_95d88 34 = .ok (.lload_n 0, 1) := by decide +kernel
theorem dJ13_bitCount_95d88_35 : decode cJ13_bitCount_95d88 35 = .ok (.lload_n 0, 1) := by decide +kernel
theorem dJ13_bitCount_95d88_36 : decode cJ13_bitCount_95d88 36 = .ok (.bipush 8, 2) := by decide +kernel
theorem dJ13_bitCount_95d88_38 : decode cJ13_bitCount_95d88 38 = .ok (.lushr, 1) := by decide +kernel
theorem dJ13_bitCount_95d88_39 : decode cJ13_bitCount_95d88 39 = .ok (.ladd, 1) := by decide +kernel
theorem dJ13_bitCount_95d88_40 : decode cJ13_bitCount_95d88 40 = .ok (.lstore_n 0, 1) := by decide +kernel
theorem dJ13_bitCount_95d88_41 : decode cJ13_bitCount_95d88 41 = .ok (.lload_n 0, 1) := by decide +kernel
theorem dJ13_bitCount_95d88_42 : decode cJ13_bitCount_95d88 42 = .ok (.lload_n 0, 1) := by decide +kernel
theorem dJ13_bitCount_95d88_43 : decode cJ13_bitCount_95d88 43 = .ok (.bipush 16, 2) := by decide +kernel
theorem dJ13_bitCount_95d88_45 : decode cJ13_bitCount_95d88 45 = .ok (.lushr, 1) := by decide +kernel
theorem dJ13_bitCount_95d88_46 : decode cJ13_bitCount_95d88 46 = .ok (.ladd, 1) := by decide +kernel
theorem dJ13_bitCount_95d88_47 : decode cJ13_bitCount_95d88 47 = .ok (.lstore_n 0, 1) := by decide +kernel
theorem dJ13_bitCount_95d88_48 : decode cJ13_bitCount_95d88 48 = .ok (.lload_n 0, 1) := by decide +kernel
theorem dJ13_bitCount_95d88_49 : decode cJ13_bitCount_95d88 49 = .ok (.lload_n 0, 1) := by decide +kernel
theorem dJ13_bitCount_95d88_50 : decode cJ13_bitCount_95d88 50 = .ok (.bipush 32, 2) := by decide +kernel
theorem dJ13_bitCount_95d88_52 : decode cJ13_bitCount_95d88 52 = .ok (.lushr, 1) := by decide +kernel
theorem dJ13_bitCount_95d88_53 : decode cJ13_bitCount_95d88 53 = .ok (.ladd, 1) := by decide +kernel
theorem dJ13_bitCount_95d88_54 : decode cJ13_bitCount_95d88 54 = .ok (.lstore_n 0, 1) := by decide +kernel
theorem dJ13_bitCount_95d88_55 : decode cJ13_bitCount_95d88 55 = .ok (.lload_n 0, 1) := by decide +kernel
theorem dJ13_bitCount_95d88_56 : decode cJ13_bitCount_95d88 56 = .ok (.l2i, 1) := by decide +kernel
theorem dJ13_bitCount_95d88_57 : decode cJ13_bitCount_95d88 57 = .ok (.bipush 127, 2) := by decide +kernel
theorem dJ13_bitCount_95d88_59 : decode cJ13_bitCount_95d88 59 = .ok (.iand, 1) := by decide +kernel
theorem dJ13_bitCount_95d88_60 : decode cJ13_bitCount_95d88 60 = .ok (.ireturn, 1) := by decide +kernel
theorem dJ9_max_7cf53_0 : decode cJ9_max_7cf53 0 = .ok (.iload_n 0, 1) := by decide +kernel
theorem dJ9_max_7cf53_1 : decode cJ9_max_7cf53 1 = .ok (.iload_n 1, 1) := by decide +kernel
theorem dJ9_max_7cf53_2 : decode cJ9_max_7cf53 2 = .ok (.if_icmp .lt 7, 3) := by decide +kernel
theorem dJ9_max_7cf53_5 : decode cJ9_max_7cf53 5 = .ok (.iload_n 0, 1) := by decide +kernel
theorem dJ9_max_7cf53_6 : decode cJ9_max_7cf53 6 = .ok (.goto 4, 3) := by decide +kernel
theorem dJ9_max_7cf53_9 : decode cJ9_max_7cf53 9 = .ok (.iload_n 1, 1) := by decide +kernel
theorem dJ9_max_7cf53_10 : decode cJ9_max_7cf53 10 = .ok (.ireturn, 1) := by decide +kernel
theorem dJ9_min_7cf53_0 : decode cJ9_min_7cf53 0 = .ok (.iload_n 0, 1) := by decide +kernel
theorem dJ9_min_7cf53_1 : decode cJ9_min_7cf53 1 = .ok (.iload_n 1, 1) := by decide +kernel
theorem dJ9_min_7cf53_2 : decode cJ9_min_7cf53 2 = .ok (.if_icmp .gt 7, 3) := by decide +kernel
theorem dJ9_min_7cf53_5 : decode cJ9_min_7cf53 5 = .ok (.iload_n 0, 1) := by decide +kernel
theorem dJ9_min_7cf53_6 : decode cJ9_min_7cf53 6 = .ok (.goto 4, 3) := by decide +kernel
theorem dJ9_min_7cf53_9 : decode cJ9_min_7cf53 9 = .ok (.iload_n 1, 1) := by decide +kernel
theorem dJ9_min_7cf53_10 : decode cJ9_min_7cf53 10 = .ok (.ireturn, 1) := by decide +kernel
