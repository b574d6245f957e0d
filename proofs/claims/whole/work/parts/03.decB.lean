theorem dX4_init_0 : decode cX4_init 0 = .ok (.aload_n 0, 1) := by decide +kernel
theorem dX4_init_1 : decode cX4_init 1 = .ok (.invokespecial 1, 3) := by decide +kernel
theorem dX4_init_4 : decode cX4_init 4 = .ok (.aload_n 0, 1) := by decide +kernel
theorem dX4_init_5 : decode cX4_init 5 = .ok (.new 7, 3) := by decide +kernel
theorem dX4_init_8 : decode cX4_init 8 = .ok (.dup, 1) := by decide +kernel
theorem dX4_init_9 : decode cX4_init 9 = .ok (.invokespecial 9, 3) := by decide +kernel
theorem dX4_init_12 : decode cX4_init 12 = .ok (.putfield 10, 3) := by decide +kernel
theorem dX4_init_15 : decode cX4_init 15 = .ok (.aload_n 0, 1) := by decide +kernel
theorem dX4_init_16 : decode cX4_init 16 = .ok (.new 16, 3) := by decide +kernel
theorem dX4_init_19 : decode cX4_init 19 = .ok (.dup, 1) := by decide +kernel
theorem dX4_init_20 : decode cX4_init 20 = .ok (.invokespecial 18, 3) := by decide +kernel
theorem dX4_init_23 : decode cX4_init 23 = .ok (.putfield 19, 3) := by decide +kernel
theorem dX4_init_26 : decode cX4_init 26 = .ok (.aload_n 0, 1) := by decide +kernel
theorem dX4_init_27 : decode cX4_init 27 = .ok (.bipush 24, 2) := by decide +kernel
theorem dX4_init_29 : decode cX4_init 29 = .ok (.anewarray 23, 3) := by decide +kernel
theorem dX4_init_32 : decode cX4_init 32 = .ok (.putfield 25, 3) := by decide +kernel
theorem dX4_init_35 : decode cX4_init 35 = .ok (.aload_n 0, 1) := by decide +kernel
theorem dX4_init_36 : decode cX4_init 36 = .ok (.bipush 30, 2) := by decide +kernel
theorem dX4_init_38 : decode cX4_init 38 = .ok (.anewarray 29, 3) := by decide +kernel
theorem dX4_init_41 : decode cX4_init 41 = .ok (.putfield 31, 3) := by decide +kernel
theorem dX4_init_44 : decode cX4_init 44 = .ok (.aload_n 0, 1) := by decide +kernel
theorem dX4_init_45 : decode cX4_init 45 = .ok (.iconst 0, 1) := by decide +kernel
theorem dX4_init_46 : decode cX4_init 46 = .ok (.putfield 35, 3) := by decide +kernel
theorem dX4_init_49 : decode cX4_init 49 = .ok (.aload_n 0, 1) := by decide +kernel
theorem dX4_init_50 : decode cX4_init 50 = .ok (.iconst 0, 1) := by decide +kernel
theorem dX4_init_51 : decode cX4_init 51 = .ok (.putfield 39, 3) := by decide +kernel
theorem dX4_init_54 : decode cX4_init 54 = .ok (.aload_n 0, 1) := by decide +kernel
theorem dX4_init_55 : decode cX4_init 55 = .ok (.iconst 2, 1) := by decide +kernel
theorem dX4_init_56 : decode cX4_init 56 = .ok (.putfield 42, 3) := by decide +kernel
theorem dX4_init_59 : decode cX4_init 59 = .ok (.aload_n 0, 1) := by decide +kernel
theorem dX4_init_60 : decode cX4_init 60 = .ok (.bipush 20, 2) := by decide +kernel
theorem dX4_init_62 : decode cX4_init 62 = .ok (.putfield 45, 3) := by decide +kernel
theorem dX4_init_65 : decode cX4_init 65 = .ok (.return_, 1) := by decide +kernel
theorem dX4_fold_0 : decode cX4_fold 0 = .ok (.iload_n 1, 1) := by decide +kernel
theorem dX4_fold_1 : decode cX4_fold 1 = .ok (.invokestatic 48, 3) := by decide +kernel
theorem dX4_fold_4 : decode cX4_fold 4 = .ok (.ifCond .eq 10, 3) := by decide +kernel
theorem dX4_fold_7 : decode cX4_fold 7 = .ok (.iload_n 2, 1) := by decide +kernel
theorem dX4_fold_8 : decode cX4_fold 8 = .ok (.invokestatic 48, 3) := by decide +kernel
theorem dX4_fold_11 : decode cX4_fold 11 = .ok (.ifCond .ne 7, 3) := by decide +kernel
theorem dX4_fold_14 : decode cX4_fold 14 = .ok (.sipush (-1002), 3) := by decide +kernel
theorem dX4_fold_17 : decode cX4_fold 17 = .ok (.ireturn, 1) := by decide +kernel
theorem dX4_fold_18 : decode cX4_fold 18 = .ok (.aload_n 0, 1) := by decide +kernel
theorem dX4_fold_19 : decode cX4_fold 19 = .ok (.getfield 10, 3) := by decide +kernel
theorem dX4_fold_22 : decode cX4_fold 22 = .ok (.iload_n 1, 1) := by decide +kernel
theorem dX4_fold_23 : decode cX4_fold 23 = .ok (.invokevirtual 52, 3) := by decide +kernel
theorem dX4_fold_26 : decode cX4_fold 26 = .ok (.istore_n 3, 1) := by decide +kernel
theorem dX4_fold_27 : decode cX4_fold 27 = .ok (.aload_n 0, 1) := by decide +kernel
theorem dX4_fold_28 : decode cX4_fold 28 = .ok (.getfield 10, 3) := by decide +kernel
theorem dX4_fold_31 : decode cX4_fold 31 = .ok (.iload_n 1, 1) := by decide +kernel
theorem dX4_fold_32 : decode cX4_fold 32 = .ok (.iload_n 2, 1) := by decide +kernel
theorem dX4_fold_33 : decode cX4_fold 33 = .ok (.invokevirtual 56, 3) := by decide +kernel
theorem dX4_fold_36 : decode cX4_fold 36 = .ok (.aload_n 0, 1) := by decide +kernel
theorem dX4_fold_37 : decode cX4_fold 37 = .ok (.invokevirtual 60, 3) := by decide +kernel
theorem dX4_fold_40 : decode cX4_fold 40 = .ok (.iload_n 3, 1) := by decide +kernel
theorem dX4_fold_41 : decode cX4_fold 41 = .ok (.ireturn, 1) := by decide +kernel
theorem dX4_changed_0 : decode cX4_changed 0 = .ok (.aload_n 0, 1) := by decide +kernel
theorem dX4_changed_1 : decode cX4_changed 1 = .ok (.getfield 19, 3) := by decide +kernel
theorem dX4_changed_4 : decode cX4_changed 4 = .ok (.iload_n 1, 1) := by decide +kernel
theorem dX4_changed_5 : decode cX4_changed 5 = .ok (.invokevirtual 63, 3) := by decide +kernel
theorem dX4_changed_8 : decode cX4_changed 8 = .ok (.istore_n 2, 1) := by decide +kernel
theorem dX4_changed_9 : decode cX4_changed 9 = .ok (.aload_n 0, 1) := by decide +kernel
theorem dX4_changed_10 : decode cX4_changed 10 = .ok (.invokevirtual 60, 3) := by decide +kernel
theorem dX4_changed_13 : decode cX4_changed 13 = .ok (.iload_n 2, 1) := by decide +kernel
theorem dX4_changed_14 : decode cX4_changed 14 = .ok (.ireturn, 1) := by decide +kernel
theorem dX4_rule_0 : decode cX4_rule 0 = .ok (.iload_n 1, 1) := by decide +kernel
theorem dX4_rule_1 : decode cX4_rule 1 = .ok (.ifCond .ne 25, 3) := by decide +kernel
theorem dX4_rule_4 : decode cX4_rule 4 = .ok (.iload_n 2, 1) := by decide +kernel
theorem dX4_rule_5 : decode cX4_rule 5 = .ok (.iconst 0, 1) := by decide +kernel
theorem dX4_rule_6 : decode cX4_rule 6 = .ok (.bipush 10, 2) := by decide +kernel
theorem dX4_rule_8 : decode cX4_rule 8 = .ok (.invokestatic 66, 3) := by decide +kernel
theorem dX4_rule_11 : decode cX4_rule 11 = .ok (.ifCond .eq 15, 3) := by decide +kernel
theorem dX4_rule_14 : decode cX4_rule 14 = .ok (.aload_n 0, 1) := by decide +kernel
theorem dX4_rule_15 : decode cX4_rule 15 = .ok (.getfield 42, 3) := by decide +kernel
theorem dX4_rule_18 : decode cX4_rule 18 = .ok (.istore_n 3, 1) := by decide +kernel
theorem dX4_rule_19 : decode cX4_rule 19 = .ok (.aload_n 0, 1) := by decide +kernel
theorem dX4_rule_20 : decode cX4_rule 20 = .ok (.iload_n 2, 1) := by decide +kernel
theorem dX4_rule_21 : decode cX4_rule 21 = .ok (.putfield 42, 3) := by decide +kernel
theorem dX4_rule_24 : decode cX4_rule 24 = .ok (.iload_n 3, 1) := by decide +kernel
theorem dX4_rule_25 : decode cX4_rule 25 = .ok (.ireturn, 1) := by decide +kernel
theorem dX4_rule_26 : decode cX4_rule 26 = .ok (.iload_n 1, 1) := by decide +kernel
theorem dX4_rule_27 : decode cX4_rule 27 = .ok (.iconst 1, 1) := by decide +kernel
theorem dX4_rule_28 : decode cX4_rule 28 = .ok (.if_icmp .ne 26, 3) := by decide +kernel
theorem dX4_rule_31 : decode cX4_rule 31 = .ok (.iload_n 2, 1) := by decide +kernel
theorem dX4_rule_32 : decode cX4_rule 32 = .ok (.iconst 0, 1) := by decide +kernel
theorem dX4_rule_33 : decode cX4_rule 33 = .ok (.sipush 200, 3) := by decide +kernel
theorem dX4_rule_36 : decode cX4_rule 36 = .ok (.invokestatic 66, 3) := by decide +kernel
theorem dX4_rule_39 : decode cX4_rule 39 = .ok (.ifCond .eq 15, 3) := by decide +kernel
theorem dX4_rule_42 : decode cX4_rule 42 = .ok (.aload_n 0, 1) := by decide +kernel
theorem dX4_rule_43 : decode cX4_rule 43 = .ok (.getfield 45, 3) := by decide +kernel
theorem dX4_rule_46 : decode cX4_rule 46 = .ok (.istore_n 3, 1) := by decide +kernel
theorem dX4_rule_47 : decode cX4_rule 47 = .ok (.aload_n 0, 1) := by decide +kernel
theorem dX4_rule_48 : decode cX4_rule 48 = .ok (.iload_n 2, 1) := by decide +kernel
theorem dX4_rule_49 : decode cX4_rule 49 = .ok (.putfield 45, 3) := by decide +kernel
theorem dX4_rule_52 : decode cX4_rule 52 = .ok (.iload_n 3, 1) := by decide +kernel
theorem dX4_rule_53 : decode cX4_rule 53 = .ok (.ireturn, 1) := by decide +kernel
theorem dX4_rule_54 : decode cX4_rule 54 = .ok (.sipush (-1002), 3) := by decide +kernel
theorem dX4_rule_57 : decode cX4_rule 57 = .ok (.ireturn, 1) := by decide +kernel
theorem dX4_answer_0 : decode cX4_answer 0 = .ok (.lload_n 1, 1) := by decide +kernel
theorem dX4_answer_1 : decode cX4_answer 1 = .ok (.invokestatic 70, 3) := by decide +kernel
theorem dX4_answer_4 : decode cX4_answer 4 = .ok (.ifCond .eq 41, 3) := by decide +kernel
theorem dX4_answer_7 : decode cX4_answer 7 = .ok (.iload_n 3, 1) := by decide +kernel
theorem dX4_answer_8 : decode cX4_answer 8 = .ok (.iconst 0, 1) := by decide +kernel
theorem dX4_answer_9 : decode cX4_answer 9 = .ok (.sipush 9999, 3) := by decide +kernel
theorem dX4_answer_12 : decode cX4_answer 12 = .ok (.invokestatic 66, 3) := by decide +kernel
theorem dX4_answer_15 : decode cX4_answer 15 = .ok (.ifCond .eq 30, 3) := by decide +kernel
theorem dX4_answer_18 : decode cX4_answer 18 = .ok (.iconst 0, 1) := by decide +kernel
theorem dX4_answer_19 : decode cX4_answer 19 = .ok (.iload 4, 2) := by decide +kernel
theorem dX4_answer_21 : decode cX4_answer 21 = .ok (.invokestatic 74, 3) := by decide +kernel
theorem dX4_answer_24 : decode cX4_answer 24 = .ok (.ifCond .eq 21, 3) := by decide +kernel
theorem dX4_answer_27 : decode cX4_answer 27 = .ok (.iconst 1, 1) := by decide +kernel
theorem dX4_answer_28 : decode cX4_answer 28 = .ok (.iload 5, 2) := by decide +kernel
theorem dX4_answer_30 : decode cX4_answer 30 = .ok (.invokestatic 74, 3) := by decide +kernel
theorem dX4_answer_33 : decode cX4_answer 33 = .ok (.ifCond .eq 12, 3) := by decide +kernel
theorem dX4_answer_36 : decode cX4_answer 36 = .ok (.iconst 2, 1) := by decide +kernel
theorem dX4_answer_37 : decode cX4_answer 37 = .ok (.iload 6, 2) := by decide +kernel
theorem dX4_answer_39 : decode cX4_answer 39 = .ok (.invokestatic 74, 3) := by decide +kernel
theorem dX4_answer_42 : decode cX4_answer 42 = .ok (.ifCond .ne 7, 3) := by decide +kernel
theorem dX4_answer_45 : decode cX4_answer 45 = .ok (.sipush (-1002), 3) := by decide +kernel
theorem dX4_answer_48 : decode cX4_answer 48 = .ok (.ireturn, 1) := by decide +kernel
theorem dX4_answer_49 : decode cX4_answer 49 = .ok (.aload_n 0, 1) := by decide +kernel
theorem dX4_answer_50 : decode cX4_answer 50 = .ok (.getfield 35, 3) := by decide +kernel
theorem dX4_answer_53 : decode cX4_answer 53 = .ok (.aload_n 0, 1) := by decide +kernel
theorem dX4_answer_54 : decode cX4_answer 54 = .ok (.getfield 25, 3) := by decide +kernel
theorem dX4_answer_57 : decode cX4_answer 57 = .ok (.arraylength, 1) := by decide +kernel
theorem dX4_answer_58 : decode cX4_answer 58 = .ok (.if_icmp .lt 7, 3) := by decide +kernel
theorem dX4_answer_61 : decode cX4_answer 61 = .ok (.sipush (-1004), 3) := by decide +kernel
theorem dX4_answer_64 : decode cX4_answer 64 = .ok (.ireturn, 1) := by decide +kernel
theorem dX4_answer_65 : decode cX4_answer 65 = .ok (.new 23, 3) := by decide +kernel
theorem dX4_answer_68 : decode cX4_answer 68 = .ok (.dup, 1) := by decide +kernel
theorem dX4_answer_69 : decode cX4_answer 69 = .ok (.aload_n 0, 1) := by decide +kernel
theorem dX4_answer_70 : decode cX4_answer 70 = .ok (.getfield 35, 3) := by decide +kernel
theorem dX4_answer_73 : decode cX4_answer 73 = .ok (.iconst 0, 1) := by decide +kernel
theorem dX4_answer_74 : decode cX4_answer 74 = .ok (.iload_n 3, 1) := by decide +kernel
theorem dX4_answer_75 : decode cX4_answer 75 = .ok (.invokespecial 78, 3) := by decide +kernel
theorem dX4_answer_78 : decode cX4_answer 78 = .ok (.astore 7, 2) := by decide +kernel
theorem dX4_answer_80 : decode cX4_answer 80 = .ok (.aload 7, 2) := by decide +kernel
theorem dX4_answer_82 : decode cX4_answer 82 = .ok (.lload_n 1, 1) := by decide +kernel
theorem dX4_answer_83 : decode cX4_answer 83 = .ok (.putfield 81, 3) := by decide +kernel
theorem dX4_answer_86 : decode cX4_answer 86 = .ok (.aload 7, 2) := by decide +kernel
theorem dX4_answer_88 : decode cX4_answer 88 = .ok (.iload 4, 2) := by decide +kernel
theorem dX4_answer_90 : decode cX4_answer 90 = .ok (.iload 5, 2) := by decide +kernel
theorem dX4_answer_92 : decode cX4_answer 92 = .ok (.iload 6, 2) := by decide +kernel
theorem dX4_answer_94 : decode cX4_answer 94 = .ok (.invokevirtual 85, 3) := by decide +kernel
theorem dX4_answer_97 : decode cX4_answer 97 = .ok (.aload 7, 2) := by decide +kernel
theorem dX4_answer_99 : decode cX4_answer 99 = .ok (.aload_n 0, 1) := by decide +kernel
theorem dX4_answer_100 : decode cX4_answer 100 = .ok (.getfield 19, 3) := by decide +kernel
theorem dX4_answer_103 : decode cX4_answer 103 = .ok (.invokevirtual 88, 3) := by decide +kernel
theorem dX4_answer_106 : decode cX4_answer 106 = .ok (.putfield 92, 3) := by decide +kernel
theorem dX4_answer_109 : decode cX4_answer 109 = .ok (.aload_n 0, 1) := by decide +kernel
theorem dX4_answer_110 : decode cX4_answer 110 = .ok (.aload 7, 2) := by decide +kernel
theorem dX4_answer_112 : decode cX4_answer 112 = .ok (.invokevirtual 95, 3) := by decide +kernel
theorem dX4_answer_115 : decode cX4_answer 115 = .ok (.aload 7, 2) := by decide +kernel
theorem dX4_answer_117 : decode cX4_answer 117 = .ok (.getfield 99, 3) := by decide +kernel
theorem dX4_answer_120 : decode cX4_answer 120 = .ok (.ireturn, 1) := by decide +kernel
theorem dX4_join_0 : decode cX4_join 0 = .ok (.aload_n 0, 1) := by decide +kernel
theorem dX4_join_1 : decode cX4_join 1 = .ok (.iload_n 1, 1) := by decide +kernel
theorem dX4_join_2 : decode cX4_join 2 = .ok (.invokevirtual 102, 3) := by decide +kernel
theorem dX4_join_5 : decode cX4_join 5 = .ok (.ifCond .eq 39, 3) := by decide +kernel
theorem dX4_join_8 : decode cX4_join 8 = .ok (.aload_n 0, 1) := by decide +kernel
theorem dX4_join_9 : decode cX4_join 9 = .ok (.iload_n 2, 1) := by decide +kernel
theorem dX4_join_10 : decode cX4_join 10 = .ok (.invokevirtual 102, 3) := by decide +kernel
theorem dX4_join_13 : decode cX4_join 13 = .ok (.ifCond .eq 31, 3) := by decide +kernel
theorem dX4_join_16 : decode cX4_join 16 = .ok (.iload_n 3, 1) := by decide +kernel
theorem dX4_join_17 : decode cX4_join 17 = .ok (.iconst (-1), 1) := by decide +kernel
theorem dX4_join_18 : decode cX4_join 18 = .ok (.if_icmp .eq 11, 3) := by decide +kernel
theorem dX4_join_21 : decode cX4_join 21 = .ok (.aload_n 0, 1) := by decide +kernel
theorem dX4_join_22 : decode cX4_join 22 = .ok (.iload_n 3, 1) := by decide +kernel
theorem dX4_join_23 : decode cX4_join 23 = .ok (.invokevirtual 102, 3) := by decide +kernel
theorem dX4_join_26 : decode cX4_join 26 = .ok (.ifCond .eq 18, 3) := by decide +kernel
theorem dX4_join_29 : decode cX4_join 29 = .ok (.iload 4, 2) := by decide +kernel
theorem dX4_join_31 : decode cX4_join 31 = .ok (.iconst (-1), 1) := by decide +kernel
theorem dX4_join_32 : decode cX4_join 32 = .ok (.if_icmp .eq 16, 3) := by decide +kernel
theorem dX4_join_35 : decode cX4_join 35 = .ok (.aload_n 0, 1) := by decide +kernel
theorem dX4_join_36 : decode cX4_join 36 = .ok (.iload 4, 2) := by decide +kernel
theorem dX4_join_38 : decode cX4_join 38 = .ok (.invokevirtual 102, 3) := by decide +kernel
theorem dX4_join_41 : decode cX4_join 41 = .ok (.ifCond .ne 7, 3) := by decide +kernel
theorem dX4_join_44 : decode cX4_join 44 = .ok (.sipush (-1001), 3) := by decide +kernel
theorem dX4_join_47 : decode cX4_join 47 = .ok (.ireturn, 1) := by decide +kernel
theorem dX4_join_48 : decode cX4_join 48 = .ok (.iload_n 3, 1) := by decide +kernel
theorem dX4_join_49 : decode cX4_join 49 = .ok (.iconst (-1), 1) := by decide +kernel
theorem dX4_join_50 : decode cX4_join 50 = .ok (.if_icmp .ne 7, 3) := by decide +kernel
theorem dX4_join_53 : decode cX4_join 53 = .ok (.iconst 2, 1) := by decide +kernel
theorem dX4_join_54 : decode cX4_join 54 = .ok (.goto 14, 3) := by decide +kernel
theorem dX4_join_57 : decode cX4_join 57 = .ok (.iload 4, 2) := by decide +kernel
theorem dX4_join_59 : decode cX4_join 59 = .ok (.iconst (-1), 1) := by decide +kernel
theorem dX4_join_60 : decode cX4_join 60 = .ok (.if_icmp .ne 7, 3) := by decide +kernel
theorem dX4_join_63 : decode cX4_join 63 = .ok (.iconst 3, 1) := by decide +kernel
theorem dX4_join_64 : decode cX4_join 64 = .ok (.goto 4, 3) := by decide +kernel
theorem dX4_join_67 : decode cX4_join 67 = .ok (.iconst 4, 1) := by decide +kernel
theorem dX4_join_68 : decode cX4_join 68 = .ok (.istore 5, 2) := by decide +kernel
theorem dX4_join_70 : decode cX4_join 70 = .ok (.iload_n 1, 1) := by decide +kernel
theorem dX4_join_71 : decode cX4_join 71 = .ok (.invokestatic 105, 3) := by decide +kernel
theorem dX4_join_74 : decode cX4_join 74 = .ok (.iload_n 2, 1) := by decide +kernel
theorem dX4_join_75 : decode cX4_join 75 = .ok (.invokestatic 105, 3) := by decide +kernel
theorem dX4_join_78 : decode cX4_join 78 = .ok (.ior, 1) := by decide +kernel
theorem dX4_join_79 : decode cX4_join 79 = .ok (.iload_n 3, 1) := by decide +kernel
theorem dX4_join_80 : decode cX4_join 80 = .ok (.invokestatic 105, 3) := by decide +kernel
theorem dX4_join_83 : decode cX4_join 83 = .ok (.ior, 1) := by decide +kernel
theorem dX4_join_84 : decode cX4_join 84 = .ok (.iload 4, 2) := by decide +kernel
theorem dX4_join_86 : decode cX4_join 86 = .ok (.invokestatic 105, 3) := by decide +kernel
theorem dX4_join_89 : decode cX4_join 89 = .ok (.ior, 1) := by decide +kernel
theorem dX4_join_90 : decode cX4_join 90 = .ok (.istore 6, 2) := by decide +kernel
theorem dX4_join_92 : decode cX4_join 92 = .ok (.iload_n 3, 1) := by decide +kernel
theorem dX4_join_93 : decode cX4_join 93 = .ok (.iconst (-1), 1) := by decide +kernel
theorem dX4_join_94 : decode cX4_join 94 = .ok (.if_icmp .ne 9, 3) := by decide +kernel
theorem dX4_join_97 : decode cX4_join 97 = .ok (.iload 4, 2) := by decide +kernel
theorem dX4_join_99 : decode cX4_join 99 = .ok (.iconst (-1), 1) := by decide +kernel
theorem dX4_join_100 : decode cX4_join 100 = .ok (.if_icmp .ne 22, 3) := by decide +kernel
theorem dX4_join_103 : decode cX4_join 103 = .ok (.iload 6, 2) := by decide +kernel
theorem dX4_join_105 : decode cX4_join 105 = .ok (.invokestatic 108, 3) := by decide +kernel
theorem dX4_join_108 : decode cX4_join 108 = .ok (.iload 5, 2) := by decide +kernel
theorem dX4_join_110 : decode cX4_join 110 = .ok (.if_icmp .ne 12, 3) := by decide +kernel
theorem dX4_join_113 : decode cX4_join 113 = .ok (.aload_n 0, 1) := by decide +kernel
theorem dX4_join_114 : decode cX4_join 114 = .ok (.iload 6, 2) := by decide +kernel
theorem dX4_join_116 : decode cX4_join 116 = .ok (.invokevirtual 113, 3) := by decide +kernel
theorem dX4_join_119 : decode cX4_join 119 = .ok (.ifCond .ne 7, 3) := by decide +kernel
theorem dX4_join_122 : decode cX4_join 122 = .ok (.sipush (-1003), 3) := by decide +kernel
theorem dX4_join_125 : decode cX4_join 125 = .ok (.ireturn, 1) := by decide +kernel
theorem dX4_join_126 : decode cX4_join 126 = .ok (.aload_n 0, 1) := by decide +kernel
theorem dX4_join_127 : decode cX4_join 127 = .ok (.getfield 35, 3) := by decide +kernel
theorem dX4_join_130 : decode cX4_join 130 = .ok (.aload_n 0, 1) := by decide +kernel
theorem dX4_join_131 : decode cX4_join 131 = .ok (.getfield 25, 3) := by decide +kernel
theorem dX4_join_134 : decode cX4_join 134 = .ok (.arraylength, 1) := by decide +kernel
theorem dX4_join_135 : decode cX4_join 135 = .ok (.if_icmp .lt 7, 3) := by decide +kernel
theorem dX4_join_138 : decode cX4_join 138 = .ok (.sipush (-1004), 3) := by decide +kernel
theorem dX4_join_141 : decode cX4_join 141 = .ok (.ireturn, 1) := by decide +kernel
theorem dX4_join_142 : decode cX4_join 142 = .ok (.new 23, 3) := by decide +kernel
theorem dX4_join_145 : decode cX4_join 145 = .ok (.dup, 1) := by decide +kernel
theorem dX4_join_146 : decode cX4_join 146 = .ok (.aload_n 0, 1) := by decide +kernel
theorem dX4_join_147 : decode cX4_join 147 = .ok (.getfield 35, 3) := by decide +kernel
theorem dX4_join_150 : decode cX4_join 150 = .ok (.iconst 1, 1) := by decide +kernel
theorem dX4_join_151 : decode cX4_join 151 = .ok (.iconst (-1), 1) := by decide +kernel
theorem dX4_join_152 : decode cX4_join 152 = .ok (.invokespecial 78, 3) := by decide +kernel
theorem dX4_join_155 : decode cX4_join 155 = .ok (.astore 7, 2) := by decide +kernel
theorem dX4_join_157 : decode cX4_join 157 = .ok (.aload 7, 2) := by decide +kernel
theorem dX4_join_159 : decode cX4_join 159 = .ok (.iload_n 1, 1) := by decide +kernel
theorem dX4_join_160 : decode cX4_join 160 = .ok (.iload_n 2, 1) := by decide +kernel
theorem dX4_join_161 : decode cX4_join 161 = .ok (.iload_n 3, 1) := by decide +kernel
theorem dX4_join_162 : decode cX4_join 162 = .ok (.iload 4, 2) := by decide +kernel
theorem dX4_join_164 : decode cX4_join 164 = .ok (.invokevirtual 116, 3) := by decide +kernel
theorem dX4_join_167 : decode cX4_join 167 = .ok (.aload_n 0, 1) := by decide +kernel
theorem dX4_join_168 : decode cX4_join 168 = .ok (.aload 7, 2) := by decide +kernel
theorem dX4_join_170 : decode cX4_join 170 = .ok (.invokevirtual 95, 3) := by decide +kernel
theorem dX4_join_173 : decode cX4_join 173 = .ok (.aload 7, 2) := by decide +kernel
theorem dX4_join_175 : decode cX4_join 175 = .ok (.getfield 99, 3) := by decide +kernel
theorem dX4_join_178 : decode cX4_join 178 = .ok (.ireturn, 1) := by decide +kernel
theorem dX4_bind_0 : decode cX4_bind 0 = .ok (.aload_n 0, 1) := by decide +kernel
theorem dX4_bind_1 : decode cX4_bind 1 = .ok (.iload_n 1, 1) := by decide +kernel
theorem dX4_bind_2 : decode cX4_bind 2 = .ok (.invokevirtual 120, 3) := by decide +kernel
theorem dX4_bind_5 : decode cX4_bind 5 = .ok (.astore_n 3, 1) := by decide +kernel
theorem dX4_bind_6 : decode cX4_bind 6 = .ok (.aload_n 3, 1) := by decide +kernel
theorem dX4_bind_7 : decode cX4_bind 7 = .ok (.ifnonnull 7, 3) := by decide +kernel
theorem dX4_bind_10 : decode cX4_bind 10 = .ok (.sipush (-1001), 3) := by decide +kernel
theorem dX4_bind_13 : decode cX4_bind 13 = .ok (.ireturn, 1) := by decide +kernel
theorem dX4_bind_14 : decode cX4_bind 14 = .ok (.iload_n 2, 1) := by decide +kernel
theorem dX4_bind_15 : decode cX4_bind 15 = .ok (.iconst 0, 1) := by decide +kernel
theorem dX4_bind_16 : decode cX4_bind 16 = .ok (.sipush 1023, 3) := by decide +kernel
theorem dX4_bind_19 : decode cX4_bind 19 = .ok (.invokestatic 66, 3) := by decide +kernel
theorem dX4_bind_22 : decode cX4_bind 22 = .ok (.ifCond .ne 7, 3) := by decide +kernel
theorem dX4_bind_25 : decode cX4_bind 25 = .ok (.sipush (-1002), 3) := by decide +kernel
theorem dX4_bind_28 : decode cX4_bind 28 = .ok (.ireturn, 1) := by decide +kernel
theorem dX4_bind_29 : decode cX4_bind 29 = .ok (.aload_n 3, 1) := by decide +kernel
theorem dX4_bind_30 : decode cX4_bind 30 = .ok (.invokevirtual 124, 3) := by decide +kernel
theorem dX4_bind_33 : decode cX4_bind 33 = .ok (.ifCond .eq 7, 3) := by decide +kernel
theorem dX4_bind_36 : decode cX4_bind 36 = .ok (.sipush (-1003), 3) := by decide +kernel
theorem dX4_bind_39 : decode cX4_bind 39 = .ok (.ireturn, 1) := by decide +kernel
theorem dX4_bind_40 : decode cX4_bind 40 = .ok (.aload_n 3, 1) := by decide +kernel
theorem dX4_bind_41 : decode cX4_bind 41 = .ok (.getfield 127, 3) := by decide +kernel
theorem dX4_bind_44 : decode cX4_bind 44 = .ok (.istore 4, 2) := by decide +kernel
theorem dX4_bind_46 : decode cX4_bind 46 = .ok (.aload_n 3, 1) := by decide +kernel
theorem dX4_bind_47 : decode cX4_bind 47 = .ok (.iload_n 2, 1) := by decide +kernel
theorem dX4_bind_48 : decode cX4_bind 48 = .ok (.putfield 127, 3) := by decide +kernel
theorem dX4_bind_51 : decode cX4_bind 51 = .ok (.aload_n 0, 1) := by decide +kernel
theorem dX4_bind_52 : decode cX4_bind 52 = .ok (.invokevirtual 60, 3) := by decide +kernel
theorem dX4_bind_55 : decode cX4_bind 55 = .ok (.iload 4, 2) := by decide +kernel
theorem dX4_bind_57 : decode cX4_bind 57 = .ok (.ireturn, 1) := by decide +kernel
theorem dX4_confirm_0 : decode cX4_confirm 0 = .ok (.aload_n 0, 1) := by decide +kernel
theorem dX4_confirm_1 : decode cX4_confirm 1 = .ok (.iload_n 1, 1) := by decide +kernel
theorem dX4_confirm_2 : decode cX4_confirm 2 = .ok (.invokevirtual 120, 3) := by decide +kernel
theorem dX4_confirm_5 : decode cX4_confirm 5 = .ok (.astore_n 2, 1) := by decide +kernel
theorem dX4_confirm_6 : decode cX4_confirm 6 = .ok (.aload_n 2, 1) := by decide +kernel
theorem dX4_confirm_7 : decode cX4_confirm 7 = .ok (.ifnonnull 7, 3) := by decide +kernel
theorem dX4_confirm_10 : decode cX4_confirm 10 = .ok (.sipush (-1001), 3) := by decide +kernel
theorem dX4_confirm_13 : decode cX4_confirm 13 = .ok (.ireturn, 1) := by decide +kernel
theorem dX4_confirm_14 : decode cX4_confirm 14 = .ok (.aload_n 2, 1) := by decide +kernel
theorem dX4_confirm_15 : decode cX4_confirm 15 = .ok (.invokevirtual 124, 3) := by decide +kernel
theorem dX4_confirm_18 : decode cX4_confirm 18 = .ok (.ifCond .eq 7, 3) := by decide +kernel
theorem dX4_confirm_21 : decode cX4_confirm 21 = .ok (.sipush (-1003), 3) := by decide +kernel
theorem dX4_confirm_24 : decode cX4_confirm 24 = .ok (.ireturn, 1) := by decide +kernel
theorem dX4_confirm_25 : decode cX4_confirm 25 = .ok (.aload_n 2, 1) := by decide +kernel
theorem dX4_confirm_26 : decode cX4_confirm 26 = .ok (.invokevirtual 129, 3) := by decide +kernel
theorem dX4_confirm_29 : decode cX4_confirm 29 = .ok (.ifCond .eq 7, 3) := by decide +kernel
theorem dX4_confirm_32 : decode cX4_confirm 32 = .ok (.iconst 1, 1) := by decide +kernel
theorem dX4_confirm_33 : decode cX4_confirm 33 = .ok (.goto 4, 3) := by decide +kernel
theorem dX4_confirm_36 : decode cX4_confirm 36 = .ok (.iconst 0, 1) := by decide +kernel
theorem dX4_confirm_37 : decode cX4_confirm 37 = .ok (.istore_n 3, 1) := by decide +kernel
theorem dX4_confirm_38 : decode cX4_confirm 38 = .ok (.aload_n 2, 1) := by decide +kernel
theorem dX4_confirm_39 : decode cX4_confirm 39 = .ok (.aload_n 0, 1) := by decide +kernel
theorem dX4_confirm_40 : decode cX4_confirm 40 = .ok (.getfield 19, 3) := by decide +kernel
theorem dX4_confirm_43 : decode cX4_confirm 43 = .ok (.invokevirtual 88, 3) := by decide +kernel
theorem dX4_confirm_46 : decode cX4_confirm 46 = .ok (.putfield 92, 3) := by decide +kernel
theorem dX4_confirm_49 : decode cX4_confirm 49 = .ok (.aload_n 0, 1) := by decide +kernel
theorem dX4_confirm_50 : decode cX4_confirm 50 = .ok (.invokevirtual 60, 3) := by decide +kernel
theorem dX4_confirm_53 : decode cX4_confirm 53 = .ok (.iload_n 3, 1) := by decide +kernel
theorem dX4_confirm_54 : decode cX4_confirm 54 = .ok (.ireturn, 1) := by decide +kernel
theorem dX4_move_0 : decode cX4_move 0 = .ok (.aload_n 0, 1) := by decide +kernel
theorem dX4_move_1 : decode cX4_move 1 = .ok (.iload_n 1, 1) := by decide +kernel
theorem dX4_move_2 : decode cX4_move 2 = .ok (.invokevirtual 120, 3) := by decide +kernel
theorem dX4_move_5 : decode cX4_move 5 = .ok (.astore_n 3, 1) := by decide +kernel
theorem dX4_move_6 : decode cX4_move 6 = .ok (.aload_n 0, 1) := by decide +kernel
theorem dX4_move_7 : decode cX4_move 7 = .ok (.iload_n 2, 1) := by decide +kernel
theorem dX4_move_8 : decode cX4_move 8 = .ok (.invokevirtual 133, 3) := by decide +kernel
theorem dX4_move_11 : decode cX4_move 11 = .ok (.astore 4, 2) := by decide +kernel
theorem dX4_move_13 : decode cX4_move 13 = .ok (.aload_n 3, 1) := by decide +kernel
theorem dX4_move_14 : decode cX4_move 14 = .ok (.ifnull 8, 3) := by decide +kernel
theorem dX4_move_17 : decode cX4_move 17 = .ok (.aload 4, 2) := by decide +kernel
theorem dX4_move_19 : decode cX4_move 19 = .ok (.ifnonnull 7, 3) := by decide +kernel
theorem dX4_move_22 : decode cX4_move 22 = .ok (.sipush (-1001), 3) := by decide +kernel
theorem dX4_move_25 : decode cX4_move 25 = .ok (.ireturn, 1) := by decide +kernel
theorem dX4_move_26 : decode cX4_move 26 = .ok (.aload_n 3, 1) := by decide +kernel
theorem dX4_move_27 : decode cX4_move 27 = .ok (.invokevirtual 136, 3) := by decide +kernel
theorem dX4_move_30 : decode cX4_move 30 = .ok (.ifCond .ne 31, 3) := by decide +kernel
theorem dX4_move_33 : decode cX4_move 33 = .ok (.aload 4, 2) := by decide +kernel
theorem dX4_move_35 : decode cX4_move 35 = .ok (.getfield 99, 3) := by decide +kernel
theorem dX4_move_38 : decode cX4_move 38 = .ok (.aload_n 3, 1) := by decide +kernel
theorem dX4_move_39 : decode cX4_move 39 = .ok (.getfield 99, 3) := by decide +kernel
theorem dX4_move_42 : decode cX4_move 42 = .ok (.if_icmp .eq 19, 3) := by decide +kernel
theorem dX4_move_45 : decode cX4_move 45 = .ok (.aload 4, 2) := by decide +kernel
theorem dX4_move_47 : decode cX4_move 47 = .ok (.getfield 139, 3) := by decide +kernel
theorem dX4_move_50 : decode cX4_move 50 = .ok (.aload_n 3, 1) := by decide +kernel
theorem dX4_move_51 : decode cX4_move 51 = .ok (.getfield 99, 3) := by decide +kernel
theorem dX4_move_54 : decode cX4_move 54 = .ok (.invokestatic 105, 3) := by decide +kernel
theorem dX4_move_57 : decode cX4_move 57 = .ok (.iand, 1) := by decide +kernel
theorem dX4_move_58 : decode cX4_move 58 = .ok (.ifCond .eq 7, 3) := by decide +kernel
theorem dX4_move_61 : decode cX4_move 61 = .ok (.sipush (-1003), 3) := by decide +kernel
theorem dX4_move_64 : decode cX4_move 64 = .ok (.ireturn, 1) := by decide +kernel
theorem dX4_move_65 : decode cX4_move 65 = .ok (.aload_n 0, 1) := by decide +kernel
theorem dX4_move_66 : decode cX4_move 66 = .ok (.aload_n 3, 1) := by decide +kernel
theorem dX4_move_67 : decode cX4_move 67 = .ok (.getfield 99, 3) := by decide +kernel
theorem dX4_move_70 : decode cX4_move 70 = .ok (.aload 4, 2) := by decide +kernel
theorem dX4_move_72 : decode cX4_move 72 = .ok (.getfield 99, 3) := by decide +kernel
theorem dX4_move_75 : decode cX4_move 75 = .ok (.invokevirtual 142, 3) := by decide +kernel
theorem dX4_move_78 : decode cX4_move 78 = .ok (.aload_n 0, 1) := by decide +kernel
theorem dX4_move_79 : decode cX4_move 79 = .ok (.invokevirtual 60, 3) := by decide +kernel
theorem dX4_move_82 : decode cX4_move 82 = .ok (.aload 4, 2) := by decide +kernel
theorem dX4_move_84 : decode cX4_move 84 = .ok (.getfield 99, 3) := by decide +kernel
theorem dX4_move_87 : decode cX4_move 87 = .ok (.ireturn, 1) := by decide +kernel
theorem dX4_melt_0 : decode cX4_melt 0 = .ok (.aload_n 0, 1) := by decide +kernel
theorem dX4_melt_1 : decode cX4_melt 1 = .ok (.iload_n 1, 1) := by decide +kernel
theorem dX4_melt_2 : decode cX4_melt 2 = .ok (.invokevirtual 120, 3) := by decide +kernel
theorem dX4_melt_5 : decode cX4_melt 5 = .ok (.astore_n 3, 1) := by decide +kernel
theorem dX4_melt_6 : decode cX4_melt 6 = .ok (.aload_n 0, 1) := by decide +kernel
theorem dX4_melt_7 : decode cX4_melt 7 = .ok (.iload_n 2, 1) := by decide +kernel
theorem dX4_melt_8 : decode cX4_melt 8 = .ok (.invokevirtual 120, 3) := by decide +kernel
theorem dX4_melt_11 : decode cX4_melt 11 = .ok (.astore 4, 2) := by decide +kernel
theorem dX4_melt_13 : decode cX4_melt 13 = .ok (.aload_n 3, 1) := by decide +kernel
theorem dX4_melt_14 : decode cX4_melt 14 = .ok (.ifnull 8, 3) := by decide +kernel
theorem dX4_melt_17 : decode cX4_melt 17 = .ok (.aload 4, 2) := by decide +kernel
theorem dX4_melt_19 : decode cX4_melt 19 = .ok (.ifnonnull 7, 3) := by decide +kernel
theorem dX4_melt_22 : decode cX4_melt 22 = .ok (.sipush (-1001), 3) := by decide +kernel
theorem dX4_melt_25 : decode cX4_melt 25 = .ok (.ireturn, 1) := by decide +kernel
theorem dX4_melt_26 : decode cX4_melt 26 = .ok (.iload_n 1, 1) := by decide +kernel
theorem dX4_melt_27 : decode cX4_melt 27 = .ok (.iload_n 2, 1) := by decide +kernel
theorem dX4_melt_28 : decode cX4_melt 28 = .ok (.if_icmp .eq 12, 3) := by decide +kernel
theorem dX4_melt_31 : decode cX4_melt 31 = .ok (.aload_n 3, 1) := by decide +kernel
theorem dX4_melt_32 : decode cX4_melt 32 = .ok (.aload 4, 2) := by decide +kernel
theorem dX4_melt_34 : decode cX4_melt 34 = .ok (.invokestatic 145, 3) := by decide +kernel
theorem dX4_melt_37 : decode cX4_melt 37 = .ok (.ifCond .ne 7, 3) := by decide +kernel
theorem dX4_melt_40 : decode cX4_melt 40 = .ok (.sipush (-1003), 3) := by decide +kernel
theorem dX4_melt_43 : decode cX4_melt 43 = .ok (.ireturn, 1) := by decide +kernel
theorem dX4_melt_44 : decode cX4_melt 44 = .ok (.aload_n 3, 1) := by decide +kernel
theorem dX4_melt_45 : decode cX4_melt 45 = .ok (.aload 4, 2) := by decide +kernel
theorem dX4_melt_47 : decode cX4_melt 47 = .ok (.invokevirtual 149, 3) := by decide +kernel
theorem dX4_melt_50 : decode cX4_melt 50 = .ok (.aload_n 0, 1) := by decide +kernel
theorem dX4_melt_51 : decode cX4_melt 51 = .ok (.aload 4, 2) := by decide +kernel
theorem dX4_melt_53 : decode cX4_melt 53 = .ok (.getfield 99, 3) := by decide +kernel
theorem dX4_melt_56 : decode cX4_melt 56 = .ok (.aload_n 3, 1) := by decide +kernel
theorem dX4_melt_57 : decode cX4_melt 57 = .ok (.getfield 99, 3) := by decide +kernel
theorem dX4_melt_60 : decode cX4_melt 60 = .ok (.invokevirtual 142, 3) := by decide +kernel
theorem dX4_melt_63 : decode cX4_melt 63 = .ok (.aload_n 0, 1) := by decide +kernel
theorem dX4_melt_64 : decode cX4_melt 64 = .ok (.invokevirtual 60, 3) := by decide +kernel
theorem dX4_melt_67 : decode cX4_melt 67 = .ok (.iconst 1, 1) := by decide +kernel
theorem dX4_melt_68 : decode cX4_melt 68 = .ok (.ireturn, 1) := by decide +kernel
theorem dX4_vote_0 : decode cX4_vote 0 = .ok (.aload_n 0, 1) := by decide +kernel
theorem dX4_vote_1 : decode cX4_vote 1 = .ok (.iload_n 1, 1) := by decide +kernel
theorem dX4_vote_2 : decode cX4_vote 2 = .ok (.invokevirtual 120, 3) := by decide +kernel
theorem dX4_vote_5 : decode cX4_vote 5 = .ok (.astore_n 3, 1) := by decide +kernel
theorem dX4_vote_6 : decode cX4_vote 6 = .ok (.aload_n 3, 1) := by decide +kernel
theorem dX4_vote_7 : decode cX4_vote 7 = .ok (.ifnonnull 7, 3) := by decide +kernel
theorem dX4_vote_10 : decode cX4_vote 10 = .ok (.sipush (-1001), 3) := by decide +kernel
theorem dX4_vote_13 : decode cX4_vote 13 = .ok (.ireturn, 1) := by decide +kernel
theorem dX4_vote_14 : decode cX4_vote 14 = .ok (.aload_n 3, 1) := by decide +kernel
theorem dX4_vote_15 : decode cX4_vote 15 = .ok (.invokevirtual 136, 3) := by decide +kernel
theorem dX4_vote_18 : decode cX4_vote 18 = .ok (.ifCond .eq 7, 3) := by decide +kernel
theorem dX4_vote_21 : decode cX4_vote 21 = .ok (.sipush (-1003), 3) := by decide +kernel
theorem dX4_vote_24 : decode cX4_vote 24 = .ok (.ireturn, 1) := by decide +kernel
theorem dX4_vote_25 : decode cX4_vote 25 = .ok (.aload_n 3, 1) := by decide +kernel
theorem dX4_vote_26 : decode cX4_vote 26 = .ok (.dup, 1) := by decide +kernel
theorem dX4_vote_27 : decode cX4_vote 27 = .ok (.getfield 152, 3) := by decide +kernel
theorem dX4_vote_30 : decode cX4_vote 30 = .ok (.iload_n 2, 1) := by decide +kernel
theorem dX4_vote_31 : decode cX4_vote 31 = .ok (.ifCond .eq 7, 3) := by decide +kernel
theorem dX4_vote_34 : decode cX4_vote 34 = .ok (.iconst 1, 1) := by decide +kernel
theorem dX4_vote_35 : decode cX4_vote 35 = .ok (.goto 4, 3) := by decide +kernel
theorem dX4_vote_38 : decode cX4_vote 38 = .ok (.iconst (-1), 1) := by decide +kernel
theorem dX4_vote_39 : decode cX4_vote 39 = .ok (.iadd, 1) := by decide +kernel
theorem dX4_vote_40 : decode cX4_vote 40 = .ok (.putfield 152, 3) := by decide +kernel
theorem dX4_vote_43 : decode cX4_vote 43 = .ok (.aload_n 3, 1) := by decide +kernel
theorem dX4_vote_44 : decode cX4_vote 44 = .ok (.getfield 152, 3) := by decide +kernel
theorem dX4_vote_47 : decode cX4_vote 47 = .ok (.ireturn, 1) := by decide +kernel
theorem dX4_told_0 : decode cX4_told 0 = .ok (.aload_n 0, 1) := by decide +kernel
theorem dX4_told_1 : decode cX4_told 1 = .ok (.iload_n 1, 1) := by decide +kernel
theorem dX4_told_2 : decode cX4_told 2 = .ok (.invokevirtual 120, 3) := by decide +kernel
theorem dX4_told_5 : decode cX4_told 5 = .ok (.astore_n 3, 1) := by decide +kernel
theorem dX4_told_6 : decode cX4_told 6 = .ok (.aload_n 3, 1) := by decide +kernel
theorem dX4_told_7 : decode cX4_told 7 = .ok (.ifnonnull 7, 3) := by decide +kernel
theorem dX4_told_10 : decode cX4_told 10 = .ok (.sipush (-1001), 3) := by decide +kernel
theorem dX4_told_13 : decode cX4_told 13 = .ok (.ireturn, 1) := by decide +kernel
theorem dX4_told_14 : decode cX4_told 14 = .ok (.iload_n 2, 1) := by decide +kernel
theorem dX4_told_15 : decode cX4_told 15 = .ok (.tableswitch 130 0 13 #[69, 74, 79, 84, 84, 84, 92, 97, 110, 115, 120, 120, 120, 120], 69) := by decide +kernel
theorem dX4_told_84 : decode cX4_told 84 = .ok (.aload_n 3, 1) := by decide +kernel
theorem dX4_told_85 : decode cX4_told 85 = .ok (.invokevirtual 124, 3) := by decide +kernel
theorem dX4_told_88 : decode cX4_told 88 = .ok (.ireturn, 1) := by decide +kernel
theorem dX4_told_89 : decode cX4_told 89 = .ok (.aload_n 3, 1) := by decide +kernel
theorem dX4_told_90 : decode cX4_told 90 = .ok (.getfield 155, 3) := by decide +kernel
theorem dX4_told_93 : decode cX4_told 93 = .ok (.ireturn, 1) := by decide +kernel
theorem dX4_told_94 : decode cX4_told 94 = .ok (.aload_n 3, 1) := by decide +kernel
theorem dX4_told_95 : decode cX4_told 95 = .ok (.getfield 158, 3) := by decide +kernel
theorem dX4_told_98 : decode cX4_told 98 = .ok (.ireturn, 1) := by decide +kernel
theorem dX4_told_99 : decode cX4_told 99 = .ok (.aload_n 3, 1) := by decide +kernel
theorem dX4_told_100 : decode cX4_told 100 = .ok (.iload_n 2, 1) := by decide +kernel
theorem dX4_told_101 : decode cX4_told 101 = .ok (.iconst 3, 1) := by decide +kernel
theorem dX4_told_102 : decode cX4_told 102 = .ok (.isub, 1) := by decide +kernel
theorem dX4_told_103 : decode cX4_told 103 = .ok (.invokevirtual 161, 3) := by decide +kernel
theorem dX4_told_106 : decode cX4_told 106 = .ok (.ireturn, 1) := by decide +kernel
theorem dX4_told_107 : decode cX4_told 107 = .ok (.aload_n 3, 1) := by decide +kernel
theorem dX4_told_108 : decode cX4_told 108 = .ok (.getfield 127, 3) := by decide +kernel
theorem dX4_told_111 : decode cX4_told 111 = .ok (.ireturn, 1) := by decide +kernel
theorem dX4_told_112 : decode cX4_told 112 = .ok (.aload_n 3, 1) := by decide +kernel
theorem dX4_told_113 : decode cX4_told 113 = .ok (.invokevirtual 129, 3) := by decide +kernel
theorem dX4_told_116 : decode cX4_told 116 = .ok (.ifCond .eq 7, 3) := by decide +kernel
theorem dX4_told_119 : decode cX4_told 119 = .ok (.iconst 1, 1) := by decide +kernel
theorem dX4_told_120 : decode cX4_told 120 = .ok (.goto 4, 3) := by decide +kernel
theorem dX4_told_123 : decode cX4_told 123 = .ok (.iconst 0, 1) := by decide +kernel
theorem dX4_told_124 : decode cX4_told 124 = .ok (.ireturn, 1) := by decide +kernel
theorem dX4_told_125 : decode cX4_told 125 = .ok (.aload_n 3, 1) := by decide +kernel
theorem dX4_told_126 : decode cX4_told 126 = .ok (.getfield 152, 3) := by decide +kernel
theorem dX4_told_129 : decode cX4_told 129 = .ok (.ireturn, 1) := by decide +kernel
theorem dX4_told_130 : decode cX4_told 130 = .ok (.aload_n 3, 1) := by decide +kernel
theorem dX4_told_131 : decode cX4_told 131 = .ok (.invokevirtual 164, 3) := by decide +kernel
theorem dX4_told_134 : decode cX4_told 134 = .ok (.ireturn, 1) := by decide +kernel
theorem dX4_told_135 : decode cX4_told 135 = .ok (.aload_n 0, 1) := by decide +kernel
theorem dX4_told_136 : decode cX4_told 136 = .ok (.aload_n 3, 1) := by decide +kernel
theorem dX4_told_137 : decode cX4_told 137 = .ok (.iload_n 2, 1) := by decide +kernel
theorem dX4_told_138 : decode cX4_told 138 = .ok (.bipush 10, 2) := by decide +kernel
theorem dX4_told_140 : decode cX4_told 140 = .ok (.isub, 1) := by decide +kernel
theorem dX4_told_141 : decode cX4_told 141 = .ok (.invokevirtual 167, 3) := by decide +kernel
theorem dX4_told_144 : decode cX4_told 144 = .ok (.ireturn, 1) := by decide +kernel
theorem dX4_told_145 : decode cX4_told 145 = .ok (.sipush (-1002), 3) := by decide +kernel
theorem dX4_told_148 : decode cX4_told 148 = .ok (.ireturn, 1) := by decide +kernel
theorem dX4_words_0 : decode cX4_words 0 = .ok (.aload_n 0, 1) := by decide +kernel
theorem dX4_words_1 : decode cX4_words 1 = .ok (.iload_n 1, 1) := by decide +kernel
theorem dX4_words_2 : decode cX4_words 2 = .ok (.invokevirtual 120, 3) := by decide +kernel
theorem dX4_words_5 : decode cX4_words 5 = .ok (.astore_n 2, 1) := by decide +kernel
theorem dX4_words_6 : decode cX4_words 6 = .ok (.aload_n 2, 1) := by decide +kernel
theorem dX4_words_7 : decode cX4_words 7 = .ok (.ifnonnull 9, 3) := by decide +kernel
theorem dX4_words_10 : decode cX4_words 10 = .ok (.ldc2_w 171, 3) := by decide +kernel
theorem dX4_words_13 : decode cX4_words 13 = .ok (.goto 7, 3) := by decide +kernel
theorem dX4_words_16 : decode cX4_words 16 = .ok (.aload_n 2, 1) := by decide +kernel
theorem dX4_words_17 : decode cX4_words 17 = .ok (.getfield 81, 3) := by decide +kernel
theorem dX4_words_20 : decode cX4_words 20 = .ok (.lreturn, 1) := by decide +kernel
theorem dX4_holds_0 : decode cX4_holds 0 = .ok (.aload_n 0, 1) := by decide +kernel
theorem dX4_holds_1 : decode cX4_holds 1 = .ok (.iload_n 1, 1) := by decide +kernel
theorem dX4_holds_2 : decode cX4_holds 2 = .ok (.invokevirtual 120, 3) := by decide +kernel
theorem dX4_holds_5 : decode cX4_holds 5 = .ok (.astore 5, 2) := by decide +kernel
theorem dX4_holds_7 : decode cX4_holds 7 = .ok (.aload 5, 2) := by decide +kernel
theorem dX4_holds_9 : decode cX4_holds 9 = .ok (.ifnonnull 7, 3) := by decide +kernel
theorem dX4_holds_12 : decode cX4_holds 12 = .ok (.sipush (-1001), 3) := by decide +kernel
theorem dX4_holds_15 : decode cX4_holds 15 = .ok (.ireturn, 1) := by decide +kernel
theorem dX4_holds_16 : decode cX4_holds 16 = .ok (.iconst 0, 1) := by decide +kernel
theorem dX4_holds_17 : decode cX4_holds 17 = .ok (.iload_n 2, 1) := by decide +kernel
theorem dX4_holds_18 : decode cX4_holds 18 = .ok (.invokestatic 173, 3) := by decide +kernel
theorem dX4_holds_21 : decode cX4_holds 21 = .ok (.ifCond .eq 20, 3) := by decide +kernel
theorem dX4_holds_24 : decode cX4_holds 24 = .ok (.iconst 1, 1) := by decide +kernel
theorem dX4_holds_25 : decode cX4_holds 25 = .ok (.iload_n 3, 1) := by decide +kernel
theorem dX4_holds_26 : decode cX4_holds 26 = .ok (.invokestatic 173, 3) := by decide +kernel
theorem dX4_holds_29 : decode cX4_holds 29 = .ok (.ifCond .eq 12, 3) := by decide +kernel
theorem dX4_holds_32 : decode cX4_holds 32 = .ok (.iconst 2, 1) := by decide +kernel
theorem dX4_holds_33 : decode cX4_holds 33 = .ok (.iload 4, 2) := by decide +kernel
theorem dX4_holds_35 : decode cX4_holds 35 = .ok (.invokestatic 173, 3) := by decide +kernel
theorem dX4_holds_38 : decode cX4_holds 38 = .ok (.ifCond .ne 7, 3) := by decide +kernel
theorem dX4_holds_41 : decode cX4_holds 41 = .ok (.sipush (-1002), 3) := by decide +kernel
theorem dX4_holds_44 : decode cX4_holds 44 = .ok (.ireturn, 1) := by decide +kernel
theorem dX4_holds_45 : decode cX4_holds 45 = .ok (.aload 5, 2) := by decide +kernel
theorem dX4_holds_47 : decode cX4_holds 47 = .ok (.iconst 0, 1) := by decide +kernel
theorem dX4_holds_48 : decode cX4_holds 48 = .ok (.iload_n 2, 1) := by decide +kernel
theorem dX4_holds_49 : decode cX4_holds 49 = .ok (.invokevirtual 176, 3) := by decide +kernel
theorem dX4_holds_52 : decode cX4_holds 52 = .ok (.ifCond .eq 28, 3) := by decide +kernel
theorem dX4_holds_55 : decode cX4_holds 55 = .ok (.aload 5, 2) := by decide +kernel
theorem dX4_holds_57 : decode cX4_holds 57 = .ok (.iconst 1, 1) := by decide +kernel
theorem dX4_holds_58 : decode cX4_holds 58 = .ok (.iload_n 3, 1) := by decide +kernel
theorem dX4_holds_59 : decode cX4_holds 59 = .ok (.invokevirtual 176, 3) := by decide +kernel
theorem dX4_holds_62 : decode cX4_holds 62 = .ok (.ifCond .eq 18, 3) := by decide +kernel
theorem dX4_holds_65 : decode cX4_holds 65 = .ok (.aload 5, 2) := by decide +kernel
theorem dX4_holds_67 : decode cX4_holds 67 = .ok (.iconst 2, 1) := by decide +kernel
theorem dX4_holds_68 : decode cX4_holds 68 = .ok (.iload 4, 2) := by decide +kernel
theorem dX4_holds_70 : decode cX4_holds 70 = .ok (.invokevirtual 176, 3) := by decide +kernel
theorem dX4_holds_73 : decode cX4_holds 73 = .ok (.ifCond .eq 7, 3) := by decide +kernel
theorem dX4_holds_76 : decode cX4_holds 76 = .ok (.iconst 1, 1) := by decide +kernel
theorem dX4_holds_77 : decode cX4_holds 77 = .ok (.goto 4, 3) := by decide +kernel
theorem dX4_holds_80 : decode cX4_holds 80 = .ok (.iconst 0, 1) := by decide +kernel
theorem dX4_holds_81 : decode cX4_holds 81 = .ok (.istore 6, 2) := by decide +kernel
theorem dX4_holds_83 : decode cX4_holds 83 = .ok (.iload 6, 2) := by decide +kernel
theorem dX4_holds_85 : decode cX4_holds 85 = .ok (.ifCond .eq 15, 3) := by decide +kernel
theorem dX4_holds_88 : decode cX4_holds 88 = .ok (.aload 5, 2) := by decide +kernel
theorem dX4_holds_90 : decode cX4_holds 90 = .ok (.invokevirtual 136, 3) := by decide +kernel
theorem dX4_holds_93 : decode cX4_holds 93 = .ok (.ifCond .ne 7, 3) := by decide +kernel
theorem dX4_holds_96 : decode cX4_holds 96 = .ok (.iconst 1, 1) := by decide +kernel
theorem dX4_holds_97 : decode cX4_holds 97 = .ok (.goto 4, 3) := by decide +kernel
theorem dX4_holds_100 : decode cX4_holds 100 = .ok (.iconst 0, 1) := by decide +kernel
theorem dX4_holds_101 : decode cX4_holds 101 = .ok (.ireturn, 1) := by decide +kernel
theorem dX4_count_0 : decode cX4_count 0 = .ok (.iload_n 1, 1) := by decide +kernel
theorem dX4_count_1 : decode cX4_count 1 = .ok (.tableswitch 96 0 8 #[51, 56, 56, 56, 64, 69, 74, 79, 87], 51) := by decide +kernel
theorem dX4_count_52 : decode cX4_count 52 = .ok (.aload_n 0, 1) := by decide +kernel
theorem dX4_count_53 : decode cX4_count 53 = .ok (.getfield 35, 3) := by decide +kernel
theorem dX4_count_56 : decode cX4_count 56 = .ok (.ireturn, 1) := by decide +kernel
theorem dX4_count_57 : decode cX4_count 57 = .ok (.aload_n 0, 1) := by decide +kernel
theorem dX4_count_58 : decode cX4_count 58 = .ok (.iload_n 1, 1) := by decide +kernel
theorem dX4_count_59 : decode cX4_count 59 = .ok (.iconst 1, 1) := by decide +kernel
theorem dX4_count_60 : decode cX4_count 60 = .ok (.isub, 1) := by decide +kernel
theorem dX4_count_61 : decode cX4_count 61 = .ok (.invokevirtual 179, 3) := by decide +kernel
theorem dX4_count_64 : decode cX4_count 64 = .ok (.ireturn, 1) := by decide +kernel
theorem dX4_count_65 : decode cX4_count 65 = .ok (.aload_n 0, 1) := by decide +kernel
theorem dX4_count_66 : decode cX4_count 66 = .ok (.invokevirtual 182, 3) := by decide +kernel
theorem dX4_count_69 : decode cX4_count 69 = .ok (.ireturn, 1) := by decide +kernel
theorem dX4_count_70 : decode cX4_count 70 = .ok (.aload_n 0, 1) := by decide +kernel
theorem dX4_count_71 : decode cX4_count 71 = .ok (.invokevirtual 185, 3) := by decide +kernel
theorem dX4_count_74 : decode cX4_count 74 = .ok (.ireturn, 1) := by decide +kernel
theorem dX4_count_75 : decode cX4_count 75 = .ok (.aload_n 0, 1) := by decide +kernel
theorem dX4_count_76 : decode cX4_count 76 = .ok (.getfield 39, 3) := by decide +kernel
theorem dX4_count_79 : decode cX4_count 79 = .ok (.ireturn, 1) := by decide +kernel
theorem dX4_count_80 : decode cX4_count 80 = .ok (.aload_n 0, 1) := by decide +kernel
theorem dX4_count_81 : decode cX4_count 81 = .ok (.invokevirtual 188, 3) := by decide +kernel
theorem dX4_count_84 : decode cX4_count 84 = .ok (.invokestatic 108, 3) := by decide +kernel
theorem dX4_count_87 : decode cX4_count 87 = .ok (.ireturn, 1) := by decide +kernel
theorem dX4_count_88 : decode cX4_count 88 = .ok (.aload_n 0, 1) := by decide +kernel
theorem dX4_count_89 : decode cX4_count 89 = .ok (.aload_n 0, 1) := by decide +kernel
theorem dX4_count_90 : decode cX4_count 90 = .ok (.invokevirtual 188, 3) := by decide +kernel
theorem dX4_count_93 : decode cX4_count 93 = .ok (.invokevirtual 191, 3) := by decide +kernel
theorem dX4_count_96 : decode cX4_count 96 = .ok (.ireturn, 1) := by decide +kernel
theorem dX4_count_97 : decode cX4_count 97 = .ok (.sipush (-1002), 3) := by decide +kernel
theorem dX4_count_100 : decode cX4_count 100 = .ok (.ireturn, 1) := by decide +kernel
theorem dX4_quarrel_0 : decode cX4_quarrel 0 = .ok (.iload_n 2, 1) := by decide +kernel
theorem dX4_quarrel_1 : decode cX4_quarrel 1 = .ok (.iconst 0, 1) := by decide +kernel
theorem dX4_quarrel_2 : decode cX4_quarrel 2 = .ok (.iconst 4, 1) := by decide +kernel
theorem dX4_quarrel_3 : decode cX4_quarrel 3 = .ok (.invokestatic 66, 3) := by decide +kernel
theorem dX4_quarrel_6 : decode cX4_quarrel 6 = .ok (.ifCond .ne 7, 3) := by decide +kernel
theorem dX4_quarrel_9 : decode cX4_quarrel 9 = .ok (.sipush (-1002), 3) := by decide +kernel
theorem dX4_quarrel_12 : decode cX4_quarrel 12 = .ok (.ireturn, 1) := by decide +kernel
theorem dX4_quarrel_13 : decode cX4_quarrel 13 = .ok (.iconst 0, 1) := by decide +kernel
theorem dX4_quarrel_14 : decode cX4_quarrel 14 = .ok (.istore_n 3, 1) := by decide +kernel
theorem dX4_quarrel_15 : decode cX4_quarrel 15 = .ok (.iconst 0, 1) := by decide +kernel
theorem dX4_quarrel_16 : decode cX4_quarrel 16 = .ok (.istore 4, 2) := by decide +kernel
theorem dX4_quarrel_18 : decode cX4_quarrel 18 = .ok (.iload 4, 2) := by decide +kernel
theorem dX4_quarrel_20 : decode cX4_quarrel 20 = .ok (.aload_n 0, 1) := by decide +kernel
theorem dX4_quarrel_21 : decode cX4_quarrel 21 = .ok (.getfield 35, 3) := by decide +kernel
theorem dX4_quarrel_24 : decode cX4_quarrel 24 = .ok (.if_icmp .ge 67, 3) := by decide +kernel
theorem dX4_quarrel_27 : decode cX4_quarrel 27 = .ok (.iload 4, 2) := by decide +kernel
theorem dX4_quarrel_29 : decode cX4_quarrel 29 = .ok (.iconst 1, 1) := by decide +kernel
theorem dX4_quarrel_30 : decode cX4_quarrel 30 = .ok (.iadd, 1) := by decide +kernel
theorem dX4_quarrel_31 : decode cX4_quarrel 31 = .ok (.istore 5, 2) := by decide +kernel
theorem dX4_quarrel_33 : decode cX4_quarrel 33 = .ok (.iload 5, 2) := by decide +kernel
theorem dX4_quarrel_35 : decode cX4_quarrel 35 = .ok (.aload_n 0, 1) := by decide +kernel
theorem dX4_quarrel_36 : decode cX4_quarrel 36 = .ok (.getfield 35, 3) := by decide +kernel
theorem dX4_quarrel_39 : decode cX4_quarrel 39 = .ok (.if_icmp .ge 46, 3) := by decide +kernel
theorem dX4_quarrel_42 : decode cX4_quarrel 42 = .ok (.aload_n 0, 1) := by decide +kernel
theorem dX4_quarrel_43 : decode cX4_quarrel 43 = .ok (.aload_n 0, 1) := by decide +kernel
theorem dX4_quarrel_44 : decode cX4_quarrel 44 = .ok (.iload 4, 2) := by decide +kernel
theorem dX4_quarrel_46 : decode cX4_quarrel 46 = .ok (.invokevirtual 120, 3) := by decide +kernel
theorem dX4_quarrel_49 : decode cX4_quarrel 49 = .ok (.aload_n 0, 1) := by decide +kernel
theorem dX4_quarrel_50 : decode cX4_quarrel 50 = .ok (.iload 5, 2) := by decide +kernel
theorem dX4_quarrel_52 : decode cX4_quarrel 52 = .ok (.invokevirtual 120, 3) := by decide +kernel
theorem dX4_quarrel_55 : decode cX4_quarrel 55 = .ok (.invokevirtual 194, 3) := by decide +kernel
theorem dX4_quarrel_58 : decode cX4_quarrel 58 = .ok (.ifCond .eq 21, 3) := by decide +kernel
theorem dX4_quarrel_61 : decode cX4_quarrel 61 = .ok (.iload_n 3, 1) := by decide +kernel
theorem dX4_quarrel_62 : decode cX4_quarrel 62 = .ok (.iload_n 1, 1) := by decide +kernel
theorem dX4_quarrel_63 : decode cX4_quarrel 63 = .ok (.if_icmp .ne 13, 3) := by decide +kernel
theorem dX4_quarrel_66 : decode cX4_quarrel 66 = .ok (.aload_n 0, 1) := by decide +kernel
theorem dX4_quarrel_67 : decode cX4_quarrel 67 = .ok (.iload 4, 2) := by decide +kernel
theorem dX4_quarrel_69 : decode cX4_quarrel 69 = .ok (.iload 5, 2) := by decide +kernel
theorem dX4_quarrel_71 : decode cX4_quarrel 71 = .ok (.iload_n 2, 1) := by decide +kernel
theorem dX4_quarrel_72 : decode cX4_quarrel 72 = .ok (.invokevirtual 197, 3) := by decide +kernel
theorem dX4_quarrel_75 : decode cX4_quarrel 75 = .ok (.ireturn, 1) := by decide +kernel
theorem dX4_quarrel_76 : decode cX4_quarrel 76 = .ok (.iinc 3 1, 3) := by decide +kernel
theorem dX4_quarrel_79 : decode cX4_quarrel 79 = .ok (.iinc 5 1, 3) := by decide +kernel
theorem dX4_quarrel_82 : decode cX4_quarrel 82 = .ok (.goto (-49), 3) := by decide +kernel
theorem dX4_quarrel_85 : decode cX4_quarrel 85 = .ok (.iinc 4 1, 3) := by decide +kernel
theorem dX4_quarrel_88 : decode cX4_quarrel 88 = .ok (.goto (-70), 3) := by decide +kernel
theorem dX4_quarrel_91 : decode cX4_quarrel 91 = .ok (.iconst (-1), 1) := by decide +kernel
theorem dX4_quarrel_92 : decode cX4_quarrel 92 = .ok (.ireturn, 1) := by decide +kernel
theorem dX4_ask_0 : decode cX4_ask 0 = .ok (.lload_n 1, 1) := by decide +kernel
theorem dX4_ask_1 : decode cX4_ask 1 = .ok (.invokestatic 70, 3) := by decide +kernel
theorem dX4_ask_4 : decode cX4_ask 4 = .ok (.ifCond .eq 29, 3) := by decide +kernel
theorem dX4_ask_7 : decode cX4_ask 7 = .ok (.iconst 0, 1) := by decide +kernel
theorem dX4_ask_8 : decode cX4_ask 8 = .ok (.iload_n 3, 1) := by decide +kernel
theorem dX4_ask_9 : decode cX4_ask 9 = .ok (.invokestatic 201, 3) := by decide +kernel
theorem dX4_ask_12 : decode cX4_ask 12 = .ok (.ifCond .eq 21, 3) := by decide +kernel
theorem dX4_ask_15 : decode cX4_ask 15 = .ok (.iconst 1, 1) := by decide +kernel
theorem dX4_ask_16 : decode cX4_ask 16 = .ok (.iload 4, 2) := by decide +kernel
theorem dX4_ask_18 : decode cX4_ask 18 = .ok (.invokestatic 201, 3) := by decide +kernel
theorem dX4_ask_21 : decode cX4_ask 21 = .ok (.ifCond .eq 12, 3) := by decide +kernel
theorem dX4_ask_24 : decode cX4_ask 24 = .ok (.iconst 2, 1) := by decide +kernel
theorem dX4_ask_25 : decode cX4_ask 25 = .ok (.iload 5, 2) := by decide +kernel
theorem dX4_ask_27 : decode cX4_ask 27 = .ok (.invokestatic 201, 3) := by decide +kernel
theorem dX4_ask_30 : decode cX4_ask 30 = .ok (.ifCond .ne 7, 3) := by decide +kernel
theorem dX4_ask_33 : decode cX4_ask 33 = .ok (.sipush (-1002), 3) := by decide +kernel
theorem dX4_ask_36 : decode cX4_ask 36 = .ok (.ireturn, 1) := by decide +kernel
theorem dX4_ask_37 : decode cX4_ask 37 = .ok (.aload_n 0, 1) := by decide +kernel
theorem dX4_ask_38 : decode cX4_ask 38 = .ok (.getfield 39, 3) := by decide +kernel
theorem dX4_ask_41 : decode cX4_ask 41 = .ok (.aload_n 0, 1) := by decide +kernel
theorem dX4_ask_42 : decode cX4_ask 42 = .ok (.getfield 31, 3) := by decide +kernel
theorem dX4_ask_45 : decode cX4_ask 45 = .ok (.arraylength, 1) := by decide +kernel
theorem dX4_ask_46 : decode cX4_ask 46 = .ok (.if_icmp .lt 7, 3) := by decide +kernel
theorem dX4_ask_49 : decode cX4_ask 49 = .ok (.sipush (-1004), 3) := by decide +kernel
theorem dX4_ask_52 : decode cX4_ask 52 = .ok (.ireturn, 1) := by decide +kernel
theorem dX4_ask_53 : decode cX4_ask 53 = .ok (.aload_n 0, 1) := by decide +kernel
theorem dX4_ask_54 : decode cX4_ask 54 = .ok (.getfield 31, 3) := by decide +kernel
theorem dX4_ask_57 : decode cX4_ask 57 = .ok (.aload_n 0, 1) := by decide +kernel
theorem dX4_ask_58 : decode cX4_ask 58 = .ok (.getfield 39, 3) := by decide +kernel
theorem dX4_ask_61 : decode cX4_ask 61 = .ok (.new 29, 3) := by decide +kernel
theorem dX4_ask_64 : decode cX4_ask 64 = .ok (.dup, 1) := by decide +kernel
theorem dX4_ask_65 : decode cX4_ask 65 = .ok (.lload_n 1, 1) := by decide +kernel
theorem dX4_ask_66 : decode cX4_ask 66 = .ok (.iload_n 3, 1) := by decide +kernel
theorem dX4_ask_67 : decode cX4_ask 67 = .ok (.iload 4, 2) := by decide +kernel
theorem dX4_ask_69 : decode cX4_ask 69 = .ok (.iload 5, 2) := by decide +kernel
theorem dX4_ask_71 : decode cX4_ask 71 = .ok (.invokespecial 204, 3) := by decide +kernel
theorem dX4_ask_74 : decode cX4_ask 74 = .ok (.aastore, 1) := by decide +kernel
theorem dX4_ask_75 : decode cX4_ask 75 = .ok (.aload_n 0, 1) := by decide +kernel
theorem dX4_ask_76 : decode cX4_ask 76 = .ok (.dup, 1) := by decide +kernel
theorem dX4_ask_77 : decode cX4_ask 77 = .ok (.getfield 39, 3) := by decide +kernel
theorem dX4_ask_80 : decode cX4_ask 80 = .ok (.iconst 1, 1) := by decide +kernel
theorem dX4_ask_81 : decode cX4_ask 81 = .ok (.iadd, 1) := by decide +kernel
theorem dX4_ask_82 : decode cX4_ask 82 = .ok (.putfield 39, 3) := by decide +kernel
theorem dX4_ask_85 : decode cX4_ask 85 = .ok (.aload_n 0, 1) := by decide +kernel
theorem dX4_ask_86 : decode cX4_ask 86 = .ok (.invokevirtual 60, 3) := by decide +kernel
theorem dX4_ask_89 : decode cX4_ask 89 = .ok (.aload_n 0, 1) := by decide +kernel
theorem dX4_ask_90 : decode cX4_ask 90 = .ok (.getfield 39, 3) := by decide +kernel
theorem dX4_ask_93 : decode cX4_ask 93 = .ok (.iconst 1, 1) := by decide +kernel
theorem dX4_ask_94 : decode cX4_ask 94 = .ok (.isub, 1) := by decide +kernel
theorem dX4_ask_95 : decode cX4_ask 95 = .ok (.ireturn, 1) := by decide +kernel
theorem dX4_found_0 : decode cX4_found 0 = .ok (.aload_n 0, 1) := by decide +kernel
theorem dX4_found_1 : decode cX4_found 1 = .ok (.iload_n 1, 1) := by decide +kernel
theorem dX4_found_2 : decode cX4_found 2 = .ok (.invokevirtual 207, 3) := by decide +kernel
theorem dX4_found_5 : decode cX4_found 5 = .ok (.astore 4, 2) := by decide +kernel
theorem dX4_found_7 : decode cX4_found 7 = .ok (.aload 4, 2) := by decide +kernel
theorem dX4_found_9 : decode cX4_found 9 = .ok (.ifnonnull 7, 3) := by decide +kernel
theorem dX4_found_12 : decode cX4_found 12 = .ok (.sipush (-1001), 3) := by decide +kernel
theorem dX4_found_15 : decode cX4_found 15 = .ok (.ireturn, 1) := by decide +kernel
theorem dX4_found_16 : decode cX4_found 16 = .ok (.iload_n 3, 1) := by decide +kernel
theorem dX4_found_17 : decode cX4_found 17 = .ok (.iconst 0, 1) := by decide +kernel
theorem dX4_found_18 : decode cX4_found 18 = .ok (.iconst 2, 1) := by decide +kernel
theorem dX4_found_19 : decode cX4_found 19 = .ok (.invokestatic 66, 3) := by decide +kernel
theorem dX4_found_22 : decode cX4_found 22 = .ok (.ifCond .ne 7, 3) := by decide +kernel
theorem dX4_found_25 : decode cX4_found 25 = .ok (.sipush (-1002), 3) := by decide +kernel
theorem dX4_found_28 : decode cX4_found 28 = .ok (.ireturn, 1) := by decide +kernel
theorem dX4_found_29 : decode cX4_found 29 = .ok (.aload_n 0, 1) := by decide +kernel
theorem dX4_found_30 : decode cX4_found 30 = .ok (.aload 4, 2) := by decide +kernel
theorem dX4_found_32 : decode cX4_found 32 = .ok (.iload_n 2, 1) := by decide +kernel
theorem dX4_found_33 : decode cX4_found 33 = .ok (.invokevirtual 211, 3) := by decide +kernel
theorem dX4_found_36 : decode cX4_found 36 = .ok (.astore 5, 2) := by decide +kernel
theorem dX4_found_38 : decode cX4_found 38 = .ok (.aload 5, 2) := by decide +kernel
theorem dX4_found_40 : decode cX4_found 40 = .ok (.ifnonnull 5, 3) := by decide +kernel
theorem dX4_found_43 : decode cX4_found 43 = .ok (.iconst (-1), 1) := by decide +kernel
theorem dX4_found_44 : decode cX4_found 44 = .ok (.ireturn, 1) := by decide +kernel
theorem dX4_found_45 : decode cX4_found 45 = .ok (.iload_n 3, 1) := by decide +kernel
theorem dX4_found_46 : decode cX4_found 46 = .ok (.ifCond .ne 11, 3) := by decide +kernel
theorem dX4_found_49 : decode cX4_found 49 = .ok (.aload 5, 2) := by decide +kernel
theorem dX4_found_51 : decode cX4_found 51 = .ok (.getfield 99, 3) := by decide +kernel
theorem dX4_found_54 : decode cX4_found 54 = .ok (.goto 30, 3) := by decide +kernel
theorem dX4_found_57 : decode cX4_found 57 = .ok (.iload_n 3, 1) := by decide +kernel
theorem dX4_found_58 : decode cX4_found 58 = .ok (.iconst 1, 1) := by decide +kernel
theorem dX4_found_59 : decode cX4_found 59 = .ok (.if_icmp .ne 18, 3) := by decide +kernel
theorem dX4_found_62 : decode cX4_found 62 = .ok (.aload 4, 2) := by decide +kernel
theorem dX4_found_64 : decode cX4_found 64 = .ok (.getfield 215, 3) := by decide +kernel
theorem dX4_found_67 : decode cX4_found 67 = .ok (.aload 4, 2) := by decide +kernel
theorem dX4_found_69 : decode cX4_found 69 = .ok (.aload 5, 2) := by decide +kernel
theorem dX4_found_71 : decode cX4_found 71 = .ok (.invokestatic 218, 3) := by decide +kernel
theorem dX4_found_74 : decode cX4_found 74 = .ok (.goto 10, 3) := by decide +kernel
theorem dX4_found_77 : decode cX4_found 77 = .ok (.aload 4, 2) := by decide +kernel
theorem dX4_found_79 : decode cX4_found 79 = .ok (.aload 5, 2) := by decide +kernel
theorem dX4_found_81 : decode cX4_found 81 = .ok (.invokestatic 222, 3) := by decide +kernel
theorem dX4_found_84 : decode cX4_found 84 = .ok (.ireturn, 1) := by decide +kernel
theorem dX4_cost_0 : decode cX4_cost 0 = .ok (.aload_n 0, 1) := by decide +kernel
theorem dX4_cost_1 : decode cX4_cost 1 = .ok (.iload_n 1, 1) := by decide +kernel
theorem dX4_cost_2 : decode cX4_cost 2 = .ok (.invokevirtual 207, 3) := by decide +kernel
theorem dX4_cost_5 : decode cX4_cost 5 = .ok (.astore_n 3, 1) := by decide +kernel
theorem dX4_cost_6 : decode cX4_cost 6 = .ok (.aload_n 0, 1) := by decide +kernel
theorem dX4_cost_7 : decode cX4_cost 7 = .ok (.iload_n 2, 1) := by decide +kernel
theorem dX4_cost_8 : decode cX4_cost 8 = .ok (.invokevirtual 120, 3) := by decide +kernel
theorem dX4_cost_11 : decode cX4_cost 11 = .ok (.astore 4, 2) := by decide +kernel
theorem dX4_cost_13 : decode cX4_cost 13 = .ok (.aload_n 3, 1) := by decide +kernel
theorem dX4_cost_14 : decode cX4_cost 14 = .ok (.ifnull 8, 3) := by decide +kernel
theorem dX4_cost_17 : decode cX4_cost 17 = .ok (.aload 4, 2) := by decide +kernel
theorem dX4_cost_19 : decode cX4_cost 19 = .ok (.ifnonnull 7, 3) := by decide +kernel
theorem dX4_cost_22 : decode cX4_cost 22 = .ok (.sipush (-1001), 3) := by decide +kernel
theorem dX4_cost_25 : decode cX4_cost 25 = .ok (.ireturn, 1) := by decide +kernel
theorem dX4_cost_26 : decode cX4_cost 26 = .ok (.aload_n 3, 1) := by decide +kernel
theorem dX4_cost_27 : decode cX4_cost 27 = .ok (.aload 4, 2) := by decide +kernel
theorem dX4_cost_29 : decode cX4_cost 29 = .ok (.invokestatic 226, 3) := by decide +kernel
theorem dX4_cost_32 : decode cX4_cost 32 = .ok (.ifCond .eq 16, 3) := by decide +kernel
theorem dX4_cost_35 : decode cX4_cost 35 = .ok (.aload_n 3, 1) := by decide +kernel
theorem dX4_cost_36 : decode cX4_cost 36 = .ok (.getfield 215, 3) := by decide +kernel
theorem dX4_cost_39 : decode cX4_cost 39 = .ok (.aload_n 3, 1) := by decide +kernel
theorem dX4_cost_40 : decode cX4_cost 40 = .ok (.aload 4, 2) := by decide +kernel
theorem dX4_cost_42 : decode cX4_cost 42 = .ok (.invokestatic 218, 3) := by decide +kernel
theorem dX4_cost_45 : decode cX4_cost 45 = .ok (.goto 6, 3) := by decide +kernel
theorem dX4_cost_48 : decode cX4_cost 48 = .ok (.sipush (-1003), 3) := by decide +kernel
theorem dX4_cost_51 : decode cX4_cost 51 = .ok (.ireturn, 1) := by decide +kernel
theorem dX4_asked_0 : decode cX4_asked 0 = .ok (.aload_n 0, 1) := by decide +kernel
theorem dX4_asked_1 : decode cX4_asked 1 = .ok (.iload_n 1, 1) := by decide +kernel
theorem dX4_asked_2 : decode cX4_asked 2 = .ok (.invokevirtual 207, 3) := by decide +kernel
theorem dX4_asked_5 : decode cX4_asked 5 = .ok (.astore_n 3, 1) := by decide +kernel
theorem dX4_asked_6 : decode cX4_asked 6 = .ok (.aload_n 3, 1) := by decide +kernel
theorem dX4_asked_7 : decode cX4_asked 7 = .ok (.ifnonnull 7, 3) := by decide +kernel
theorem dX4_asked_10 : decode cX4_asked 10 = .ok (.sipush (-1001), 3) := by decide +kernel
theorem dX4_asked_13 : decode cX4_asked 13 = .ok (.ireturn, 1) := by decide +kernel
theorem dX4_asked_14 : decode cX4_asked 14 = .ok (.iload_n 2, 1) := by decide +kernel
theorem dX4_asked_15 : decode cX4_asked 15 = .ok (.tableswitch 85 0 3 #[29, 47, 57, 79], 29) := by decide +kernel
theorem dX4_asked_44 : decode cX4_asked 44 = .ok (.aload_n 0, 1) := by decide +kernel
theorem dX4_asked_45 : decode cX4_asked 45 = .ok (.aload_n 3, 1) := by decide +kernel
theorem dX4_asked_46 : decode cX4_asked 46 = .ok (.getfield 215, 3) := by decide +kernel
theorem dX4_asked_49 : decode cX4_asked 49 = .ok (.aload_n 3, 1) := by decide +kernel
theorem dX4_asked_50 : decode cX4_asked 50 = .ok (.invokevirtual 230, 3) := by decide +kernel
theorem dX4_asked_53 : decode cX4_asked 53 = .ok (.ifCond .eq 7, 3) := by decide +kernel
theorem dX4_asked_56 : decode cX4_asked 56 = .ok (.iconst 0, 1) := by decide +kernel
theorem dX4_asked_57 : decode cX4_asked 57 = .ok (.goto 4, 3) := by decide +kernel
theorem dX4_asked_60 : decode cX4_asked 60 = .ok (.iconst 1, 1) := by decide +kernel
theorem dX4_asked_61 : decode cX4_asked 61 = .ok (.ireturn, 1) := by decide +kernel
theorem dX4_asked_62 : decode cX4_asked 62 = .ok (.aload_n 0, 1) := by decide +kernel
theorem dX4_asked_63 : decode cX4_asked 63 = .ok (.iload_n 1, 1) := by decide +kernel
theorem dX4_asked_64 : decode cX4_asked 64 = .ok (.aload_n 0, 1) := by decide +kernel
theorem dX4_asked_65 : decode cX4_asked 65 = .ok (.invokevirtual 188, 3) := by decide +kernel
theorem dX4_asked_68 : decode cX4_asked 68 = .ok (.invokevirtual 234, 3) := by decide +kernel
theorem dX4_asked_71 : decode cX4_asked 71 = .ok (.ireturn, 1) := by decide +kernel
theorem dX4_asked_72 : decode cX4_asked 72 = .ok (.aload_n 0, 1) := by decide +kernel
theorem dX4_asked_73 : decode cX4_asked 73 = .ok (.aload_n 3, 1) := by decide +kernel
theorem dX4_asked_74 : decode cX4_asked 74 = .ok (.getfield 215, 3) := by decide +kernel
theorem dX4_asked_77 : decode cX4_asked 77 = .ok (.aload_n 3, 1) := by decide +kernel
theorem dX4_asked_78 : decode cX4_asked 78 = .ok (.invokevirtual 230, 3) := by decide +kernel
theorem dX4_asked_81 : decode cX4_asked 81 = .ok (.ifCond .eq 7, 3) := by decide +kernel
theorem dX4_asked_84 : decode cX4_asked 84 = .ok (.iconst (-1), 1) := by decide +kernel
theorem dX4_asked_85 : decode cX4_asked 85 = .ok (.goto 8, 3) := by decide +kernel
theorem dX4_asked_88 : decode cX4_asked 88 = .ok (.aload_n 0, 1) := by decide +kernel
theorem dX4_asked_89 : decode cX4_asked 89 = .ok (.aload_n 3, 1) := by decide +kernel
theorem dX4_asked_90 : decode cX4_asked 90 = .ok (.invokevirtual 238, 3) := by decide +kernel
theorem dX4_asked_93 : decode cX4_asked 93 = .ok (.ireturn, 1) := by decide +kernel
theorem dX4_asked_94 : decode cX4_asked 94 = .ok (.aload_n 0, 1) := by decide +kernel
theorem dX4_asked_95 : decode cX4_asked 95 = .ok (.aload_n 3, 1) := by decide +kernel
theorem dX4_asked_96 : decode cX4_asked 96 = .ok (.invokevirtual 242, 3) := by decide +kernel
theorem dX4_asked_99 : decode cX4_asked 99 = .ok (.ireturn, 1) := by decide +kernel
theorem dX4_asked_100 : decode cX4_asked 100 = .ok (.sipush (-1002), 3) := by decide +kernel
theorem dX4_asked_103 : decode cX4_asked 103 = .ok (.ireturn, 1) := by decide +kernel
theorem dX4_answerAt_0 : decode cX4_answerAt 0 = .ok (.iload_n 1, 1) := by decide +kernel
theorem dX4_answerAt_1 : decode cX4_answerAt 1 = .ok (.ifCond .lt 29, 3) := by decide +kernel
theorem dX4_answerAt_4 : decode cX4_answerAt 4 = .ok (.iload_n 1, 1) := by decide +kernel
theorem dX4_answerAt_5 : decode cX4_answerAt 5 = .ok (.aload_n 0, 1) := by decide +kernel
theorem dX4_answerAt_6 : decode cX4_answerAt 6 = .ok (.getfield 35, 3) := by decide +kernel
theorem dX4_answerAt_9 : decode cX4_answerAt 9 = .ok (.if_icmp .ge 21, 3) := by decide +kernel
theorem dX4_answerAt_12 : decode cX4_answerAt 12 = .ok (.iload_n 1, 1) := by decide +kernel
theorem dX4_answerAt_13 : decode cX4_answerAt 13 = .ok (.aload_n 0, 1) := by decide +kernel
theorem dX4_answerAt_14 : decode cX4_answerAt 14 = .ok (.getfield 25, 3) := by decide +kernel
theorem dX4_answerAt_17 : decode cX4_answerAt 17 = .ok (.arraylength, 1) := by decide +kernel
theorem dX4_answerAt_18 : decode cX4_answerAt 18 = .ok (.if_icmp .ge 12, 3) := by decide +kernel
theorem dX4_answerAt_21 : decode cX4_answerAt 21 = .ok (.aload_n 0, 1) := by decide +kernel
theorem dX4_answerAt_22 : decode cX4_answerAt 22 = .ok (.getfield 25, 3) := by decide +kernel
theorem dX4_answerAt_25 : decode cX4_answerAt 25 = .ok (.iload_n 1, 1) := by decide +kernel
theorem dX4_answerAt_26 : decode cX4_answerAt 26 = .ok (.aaload, 1) := by decide +kernel
theorem dX4_answerAt_27 : decode cX4_answerAt 27 = .ok (.goto 4, 3) := by decide +kernel
theorem dX4_answerAt_30 : decode cX4_answerAt 30 = .ok (.aconst_null, 1) := by decide +kernel
theorem dX4_answerAt_31 : decode cX4_answerAt 31 = .ok (.areturn, 1) := by decide +kernel
theorem dX4_askAt_0 : decode cX4_askAt 0 = .ok (.iload_n 1, 1) := by decide +kernel
theorem dX4_askAt_1 : decode cX4_askAt 1 = .ok (.ifCond .lt 29, 3) := by decide +kernel
theorem dX4_askAt_4 : decode cX4_askAt 4 = .ok (.iload_n 1, 1) := by decide +kernel
theorem dX4_askAt_5 : decode cX4_askAt 5 = .ok (.aload_n 0, 1) := by decide +kernel
theorem dX4_askAt_6 : decode cX4_askAt 6 = .ok (.getfield 39, 3) := by decide +kernel
theorem dX4_askAt_9 : decode cX4_askAt 9 = .ok (.if_icmp .ge 21, 3) := by decide +kernel
theorem dX4_askAt_12 : decode cX4_askAt 12 = .ok (.iload_n 1, 1) := by decide +kernel
theorem dX4_askAt_13 : decode cX4_askAt 13 = .ok (.aload_n 0, 1) := by decide +kernel
theorem dX4_askAt_14 : decode cX4_askAt 14 = .ok (.getfield 31, 3) := by decide +kernel
theorem dX4_askAt_17 : decode cX4_askAt 17 = .ok (.arraylength, 1) := by decide +kernel
theorem dX4_askAt_18 : decode cX4_askAt 18 = .ok (.if_icmp .ge 12, 3) := by decide +kernel
theorem dX4_askAt_21 : decode cX4_askAt 21 = .ok (.aload_n 0, 1) := by decide +kernel
theorem dX4_askAt_22 : decode cX4_askAt 22 = .ok (.getfield 31, 3) := by decide +kernel
theorem dX4_askAt_25 : decode cX4_askAt 25 = .ok (.iload_n 1, 1) := by decide +kernel
theorem dX4_askAt_26 : decode cX4_askAt 26 = .ok (.aaload, 1) := by decide +kernel
theorem dX4_askAt_27 : decode cX4_askAt 27 = .ok (.goto 4, 3) := by decide +kernel
theorem dX4_askAt_30 : decode cX4_askAt 30 = .ok (.aconst_null, 1) := by decide +kernel
theorem dX4_askAt_31 : decode cX4_askAt 31 = .ok (.areturn, 1) := by decide +kernel
theorem dX4_isAnswer_0 : decode cX4_isAnswer 0 = .ok (.iload_n 1, 1) := by decide +kernel
theorem dX4_isAnswer_1 : decode cX4_isAnswer 1 = .ok (.ifCond .lt 15, 3) := by decide +kernel
theorem dX4_isAnswer_4 : decode cX4_isAnswer 4 = .ok (.iload_n 1, 1) := by decide +kernel
theorem dX4_isAnswer_5 : decode cX4_isAnswer 5 = .ok (.aload_n 0, 1) := by decide +kernel
theorem dX4_isAnswer_6 : decode cX4_isAnswer 6 = .ok (.getfield 35, 3) := by decide +kernel
theorem dX4_isAnswer_9 : decode cX4_isAnswer 9 = .ok (.if_icmp .ge 7, 3) := by decide +kernel
theorem dX4_isAnswer_12 : decode cX4_isAnswer 12 = .ok (.iconst 1, 1) := by decide +kernel
theorem dX4_isAnswer_13 : decode cX4_isAnswer 13 = .ok (.goto 4, 3) := by decide +kernel
theorem dX4_isAnswer_16 : decode cX4_isAnswer 16 = .ok (.iconst 0, 1) := by decide +kernel
theorem dX4_isAnswer_17 : decode cX4_isAnswer 17 = .ok (.ireturn, 1) := by decide +kernel
theorem dX4_within_0 : decode cX4_within 0 = .ok (.iload_n 0, 1) := by decide +kernel
theorem dX4_within_1 : decode cX4_within 1 = .ok (.iload_n 1, 1) := by decide +kernel
theorem dX4_within_2 : decode cX4_within 2 = .ok (.if_icmp .lt 12, 3) := by decide +kernel
theorem dX4_within_5 : decode cX4_within 5 = .ok (.iload_n 0, 1) := by decide +kernel
theorem dX4_within_6 : decode cX4_within 6 = .ok (.iload_n 2, 1) := by decide +kernel
theorem dX4_within_7 : decode cX4_within 7 = .ok (.if_icmp .gt 7, 3) := by decide +kernel
theorem dX4_within_10 : decode cX4_within 10 = .ok (.iconst 1, 1) := by decide +kernel
theorem dX4_within_11 : decode cX4_within 11 = .ok (.goto 4, 3) := by decide +kernel
theorem dX4_within_14 : decode cX4_within 14 = .ok (.iconst 0, 1) := by decide +kernel
theorem dX4_within_15 : decode cX4_within 15 = .ok (.ireturn, 1) := by decide +kernel
theorem dX4_isWord_0 : decode cX4_isWord 0 = .ok (.iload_n 0, 1) := by decide +kernel
theorem dX4_isWord_1 : decode cX4_isWord 1 = .ok (.iconst 0, 1) := by decide +kernel
theorem dX4_isWord_2 : decode cX4_isWord 2 = .ok (.bipush 39, 2) := by decide +kernel
theorem dX4_isWord_4 : decode cX4_isWord 4 = .ok (.invokestatic 66, 3) := by decide +kernel
theorem dX4_isWord_7 : decode cX4_isWord 7 = .ok (.ireturn, 1) := by decide +kernel
theorem dX4_isSetOfWords_0 : decode cX4_isSetOfWords 0 = .ok (.lload_n 0, 1) := by decide +kernel
theorem dX4_isSetOfWords_1 : decode cX4_isSetOfWords 1 = .ok (.lconst 0, 1) := by decide +kernel
theorem dX4_isSetOfWords_2 : decode cX4_isSetOfWords 2 = .ok (.lcmp, 1) := by decide +kernel
theorem dX4_isSetOfWords_3 : decode cX4_isSetOfWords 3 = .ok (.ifCond .lt 15, 3) := by decide +kernel
theorem dX4_isSetOfWords_6 : decode cX4_isSetOfWords 6 = .ok (.lload_n 0, 1) := by decide +kernel
theorem dX4_isSetOfWords_7 : decode cX4_isSetOfWords 7 = .ok (.ldc2_w 245, 3) := by decide +kernel
theorem dX4_isSetOfWords_10 : decode cX4_isSetOfWords 10 = .ok (.lcmp, 1) := by decide +kernel
theorem dX4_isSetOfWords_11 : decode cX4_isSetOfWords 11 = .ok (.ifCond .ge 7, 3) := by decide +kernel
theorem dX4_isSetOfWords_14 : decode cX4_isSetOfWords 14 = .ok (.iconst 1, 1) := by decide +kernel
theorem dX4_isSetOfWords_15 : decode cX4_isSetOfWords 15 = .ok (.goto 4, 3) := by decide +kernel
theorem dX4_isSetOfWords_18 : decode cX4_isSetOfWords 18 = .ok (.iconst 0, 1) := by decide +kernel
theorem dX4_isSetOfWords_19 : decode cX4_isSetOfWords 19 = .ok (.ireturn, 1) := by decide +kernel
theorem dX4_allValues_0 : decode cX4_allValues 0 = .ok (.iload_n 0, 1) := by decide +kernel
theorem dX4_allValues_1 : decode cX4_allValues 1 = .ok (.ifCond .lt 19, 3) := by decide +kernel
theorem dX4_allValues_4 : decode cX4_allValues 4 = .ok (.iload_n 0, 1) := by decide +kernel
theorem dX4_allValues_5 : decode cX4_allValues 5 = .ok (.getstatic 247, 3) := by decide +kernel
theorem dX4_allValues_8 : decode cX4_allValues 8 = .ok (.arraylength, 1) := by decide +kernel
theorem dX4_allValues_9 : decode cX4_allValues 9 = .ok (.if_icmp .ge 11, 3) := by decide +kernel
theorem dX4_allValues_12 : decode cX4_allValues 12 = .ok (.getstatic 247, 3) := by decide +kernel
theorem dX4_allValues_15 : decode cX4_allValues 15 = .ok (.iload_n 0, 1) := by decide +kernel
theorem dX4_allValues_16 : decode cX4_allValues 16 = .ok (.iaload, 1) := by decide +kernel
theorem dX4_allValues_17 : decode cX4_allValues 17 = .ok (.goto 4, 3) := by decide +kernel
theorem dX4_allValues_20 : decode cX4_allValues 20 = .ok (.iconst 0, 1) := by decide +kernel
theorem dX4_allValues_21 : decode cX4_allValues 21 = .ok (.ireturn, 1) := by decide +kernel
theorem dX4_isSetOfValues_0 : decode cX4_isSetOfValues 0 = .ok (.iload_n 1, 1) := by decide +kernel
theorem dX4_isSetOfValues_1 : decode cX4_isSetOfValues 1 = .ok (.ifCond .le 15, 3) := by decide +kernel
theorem dX4_isSetOfValues_4 : decode cX4_isSetOfValues 4 = .ok (.iload_n 1, 1) := by decide +kernel
theorem dX4_isSetOfValues_5 : decode cX4_isSetOfValues 5 = .ok (.iload_n 0, 1) := by decide +kernel
theorem dX4_isSetOfValues_6 : decode cX4_isSetOfValues 6 = .ok (.invokestatic 251, 3) := by decide +kernel
theorem dX4_isSetOfValues_9 : decode cX4_isSetOfValues 9 = .ok (.if_icmp .gt 7, 3) := by decide +kernel
theorem dX4_isSetOfValues_12 : decode cX4_isSetOfValues 12 = .ok (.iconst 1, 1) := by decide +kernel
theorem dX4_isSetOfValues_13 : decode cX4_isSetOfValues 13 = .ok (.goto 4, 3) := by decide +kernel
theorem dX4_isSetOfValues_16 : decode cX4_isSetOfValues 16 = .ok (.iconst 0, 1) := by decide +kernel
theorem dX4_isSetOfValues_17 : decode cX4_isSetOfValues 17 = .ok (.ireturn, 1) := by decide +kernel
theorem dX4_isValue_0 : decode cX4_isValue 0 = .ok (.iload_n 0, 1) := by decide +kernel
theorem dX4_isValue_1 : decode cX4_isValue 1 = .ok (.invokestatic 251, 3) := by decide +kernel
theorem dX4_isValue_4 : decode cX4_isValue 4 = .ok (.iload_n 1, 1) := by decide +kernel
theorem dX4_isValue_5 : decode cX4_isValue 5 = .ok (.invokestatic 105, 3) := by decide +kernel
theorem dX4_isValue_8 : decode cX4_isValue 8 = .ok (.iand, 1) := by decide +kernel
theorem dX4_isValue_9 : decode cX4_isValue 9 = .ok (.ifCond .eq 7, 3) := by decide +kernel
theorem dX4_isValue_12 : decode cX4_isValue 12 = .ok (.iconst 1, 1) := by decide +kernel
theorem dX4_isValue_13 : decode cX4_isValue 13 = .ok (.goto 4, 3) := by decide +kernel
theorem dX4_isValue_16 : decode cX4_isValue 16 = .ok (.iconst 0, 1) := by decide +kernel
theorem dX4_isValue_17 : decode cX4_isValue 17 = .ok (.ireturn, 1) := by decide +kernel
theorem dX4_isValueOrNone_0 : decode cX4_isValueOrNone 0 = .ok (.iload_n 1, 1) := by decide +kernel
theorem dX4_isValueOrNone_1 : decode cX4_isValueOrNone 1 = .ok (.iconst (-1), 1) := by decide +kernel
theorem dX4_isValueOrNone_2 : decode cX4_isValueOrNone 2 = .ok (.if_icmp .eq 11, 3) := by decide +kernel
theorem dX4_isValueOrNone_5 : decode cX4_isValueOrNone 5 = .ok (.iload_n 0, 1) := by decide +kernel
theorem dX4_isValueOrNone_6 : decode cX4_isValueOrNone 6 = .ok (.iload_n 1, 1) := by decide +kernel
theorem dX4_isValueOrNone_7 : decode cX4_isValueOrNone 7 = .ok (.invokestatic 173, 3) := by decide +kernel
theorem dX4_isValueOrNone_10 : decode cX4_isValueOrNone 10 = .ok (.ifCond .eq 7, 3) := by decide +kernel
theorem dX4_isValueOrNone_13 : decode cX4_isValueOrNone 13 = .ok (.iconst 1, 1) := by decide +kernel
theorem dX4_isValueOrNone_14 : decode cX4_isValueOrNone 14 = .ok (.goto 4, 3) := by decide +kernel
theorem dX4_isValueOrNone_17 : decode cX4_isValueOrNone 17 = .ok (.iconst 0, 1) := by decide +kernel
theorem dX4_isValueOrNone_18 : decode cX4_isValueOrNone 18 = .ok (.ireturn, 1) := by decide +kernel
theorem dX4_bit_0 : decode cX4_bit 0 = .ok (.iload_n 0, 1) := by decide +kernel
theorem dX4_bit_1 : decode cX4_bit 1 = .ok (.ifCond .lt 15, 3) := by decide +kernel
theorem dX4_bit_4 : decode cX4_bit 4 = .ok (.iload_n 0, 1) := by decide +kernel
theorem dX4_bit_5 : decode cX4_bit 5 = .ok (.bipush 30, 2) := by decide +kernel
theorem dX4_bit_7 : decode cX4_bit 7 = .ok (.if_icmp .gt 9, 3) := by decide +kernel
theorem dX4_bit_10 : decode cX4_bit 10 = .ok (.iconst 1, 1) := by decide +kernel
theorem dX4_bit_11 : decode cX4_bit 11 = .ok (.iload_n 0, 1) := by decide +kernel
theorem dX4_bit_12 : decode cX4_bit 12 = .ok (.ishl, 1) := by decide +kernel
theorem dX4_bit_13 : decode cX4_bit 13 = .ok (.goto 4, 3) := by decide +kernel
theorem dX4_bit_16 : decode cX4_bit 16 = .ok (.iconst 0, 1) := by decide +kernel
theorem dX4_bit_17 : decode cX4_bit 17 = .ok (.ireturn, 1) := by decide +kernel
theorem dX4_least_0 : decode cX4_least 0 = .ok (.iconst 0, 1) := by decide +kernel
theorem dX4_least_1 : decode cX4_least 1 = .ok (.istore_n 1, 1) := by decide +kernel
theorem dX4_least_2 : decode cX4_least 2 = .ok (.iload_n 1, 1) := by decide +kernel
theorem dX4_least_3 : decode cX4_least 3 = .ok (.bipush 30, 2) := by decide +kernel
theorem dX4_least_5 : decode cX4_least 5 = .ok (.if_icmp .gt 20, 3) := by decide +kernel
theorem dX4_least_8 : decode cX4_least 8 = .ok (.iload_n 0, 1) := by decide +kernel
theorem dX4_least_9 : decode cX4_least 9 = .ok (.iload_n 1, 1) := by decide +kernel
theorem dX4_least_10 : decode cX4_least 10 = .ok (.invokestatic 105, 3) := by decide +kernel
theorem dX4_least_13 : decode cX4_least 13 = .ok (.iand, 1) := by decide +kernel
theorem dX4_least_14 : decode cX4_least 14 = .ok (.ifCond .eq 5, 3) := by decide +kernel
theorem dX4_least_17 : decode cX4_least 17 = .ok (.iload_n 1, 1) := by decide +kernel
theorem dX4_least_18 : decode cX4_least 18 = .ok (.ireturn, 1) := by decide +kernel
theorem dX4_least_19 : decode cX4_least 19 = .ok (.iinc 1 1, 3) := by decide +kernel
theorem dX4_least_22 : decode cX4_least 22 = .ok (.goto (-20), 3) := by decide +kernel
theorem dX4_least_25 : decode cX4_least 25 = .ok (.iconst (-1), 1) := by decide +kernel
theorem dX4_least_26 : decode cX4_least 26 = .ok (.ireturn, 1) := by decide +kernel
theorem dX4_far_0 : decode cX4_far 0 = .ok (.lload_n 0, 1) := by decide +kernel
theorem dX4_far_1 : decode cX4_far 1 = .ok (.lload_n 2, 1) := by decide +kernel
theorem dX4_far_2 : decode cX4_far 2 = .ok (.lxor, 1) := by decide +kernel
theorem dX4_far_3 : decode cX4_far 3 = .ok (.invokestatic 254, 3) := by decide +kernel
theorem dX4_far_6 : decode cX4_far 6 = .ok (.ireturn, 1) := by decide +kernel
theorem dX4_keep_0 : decode cX4_keep 0 = .ok (.aload_n 0, 1) := by decide +kernel
theorem dX4_keep_1 : decode cX4_keep 1 = .ok (.getfield 35, 3) := by decide +kernel
theorem dX4_keep_4 : decode cX4_keep 4 = .ok (.aload_n 0, 1) := by decide +kernel
theorem dX4_keep_5 : decode cX4_keep 5 = .ok (.getfield 25, 3) := by decide +kernel
theorem dX4_keep_8 : decode cX4_keep 8 = .ok (.arraylength, 1) := by decide +kernel
theorem dX4_keep_9 : decode cX4_keep 9 = .ok (.if_icmp .ge 23, 3) := by decide +kernel
theorem dX4_keep_12 : decode cX4_keep 12 = .ok (.aload_n 0, 1) := by decide +kernel
theorem dX4_keep_13 : decode cX4_keep 13 = .ok (.getfield 25, 3) := by decide +kernel
theorem dX4_keep_16 : decode cX4_keep 16 = .ok (.aload_n 0, 1) := by decide +kernel
theorem dX4_keep_17 : decode cX4_keep 17 = .ok (.getfield 35, 3) := by decide +kernel
theorem dX4_keep_20 : decode cX4_keep 20 = .ok (.aload_n 1, 1) := by decide +kernel
theorem dX4_keep_21 : decode cX4_keep 21 = .ok (.aastore, 1) := by decide +kernel
theorem dX4_keep_22 : decode cX4_keep 22 = .ok (.aload_n 0, 1) := by decide +kernel
theorem dX4_keep_23 : decode cX4_keep 23 = .ok (.dup, 1) := by decide +kernel
theorem dX4_keep_24 : decode cX4_keep 24 = .ok (.getfield 35, 3) := by decide +kernel
theorem dX4_keep_27 : decode cX4_keep 27 = .ok (.iconst 1, 1) := by decide +kernel
theorem dX4_keep_28 : decode cX4_keep 28 = .ok (.iadd, 1) := by decide +kernel
theorem dX4_keep_29 : decode cX4_keep 29 = .ok (.putfield 35, 3) := by decide +kernel
theorem dX4_keep_32 : decode cX4_keep 32 = .ok (.aload_n 0, 1) := by decide +kernel
theorem dX4_keep_33 : decode cX4_keep 33 = .ok (.invokevirtual 60, 3) := by decide +kernel
theorem dX4_keep_36 : decode cX4_keep 36 = .ok (.return_, 1) := by decide +kernel
theorem dX4_endOf_0 : decode cX4_endOf 0 = .ok (.aload_n 0, 1) := by decide +kernel
theorem dX4_endOf_1 : decode cX4_endOf 1 = .ok (.iload_n 1, 1) := by decide +kernel
theorem dX4_endOf_2 : decode cX4_endOf 2 = .ok (.invokevirtual 120, 3) := by decide +kernel
theorem dX4_endOf_5 : decode cX4_endOf 5 = .ok (.astore_n 2, 1) := by decide +kernel
theorem dX4_endOf_6 : decode cX4_endOf 6 = .ok (.aload_n 2, 1) := by decide +kernel
theorem dX4_endOf_7 : decode cX4_endOf 7 = .ok (.ifnonnull 7, 3) := by decide +kernel
theorem dX4_endOf_10 : decode cX4_endOf 10 = .ok (.aconst_null, 1) := by decide +kernel
theorem dX4_endOf_11 : decode cX4_endOf 11 = .ok (.goto 11, 3) := by decide +kernel
theorem dX4_endOf_14 : decode cX4_endOf 14 = .ok (.aload_n 0, 1) := by decide +kernel
theorem dX4_endOf_15 : decode cX4_endOf 15 = .ok (.aload_n 2, 1) := by decide +kernel
