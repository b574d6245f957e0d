theorem dX5_init_0 : decode cX5_init 0 = .ok (.aload_n 0, 1) := by decide +kernel
theorem dX5_init_1 : decode cX5_init 1 = .ok (.invokespecial 1, 3) := by decide +kernel
theorem dX5_init_4 : decode cX5_init 4 = .ok (.aload_n 0, 1) := by decide +kernel
theorem dX5_init_5 : decode cX5_init 5 = .ok (.bipush 40, 2) := by decide +kernel
theorem dX5_init_7 : decode cX5_init 7 = .ok (.newarray .int, 2) := by decide +kernel
theorem dX5_init_9 : decode cX5_init 9 = .ok (.putfield 7, 3) := by decide +kernel
theorem dX5_init_12 : decode cX5_init 12 = .ok (.aload_n 0, 1) := by decide +kernel
theorem dX5_init_13 : decode cX5_init 13 = .ok (.bipush 10, 2) := by decide +kernel
theorem dX5_init_15 : decode cX5_init 15 = .ok (.newarray .int, 2) := by decide +kernel
theorem dX5_init_17 : decode cX5_init 17 = .ok (.putfield 13, 3) := by decide +kernel
theorem dX5_init_20 : decode cX5_init 20 = .ok (.aload_n 0, 1) := by decide +kernel
theorem dX5_init_21 : decode cX5_init 21 = .ok (.bipush 10, 2) := by decide +kernel
theorem dX5_init_23 : decode cX5_init 23 = .ok (.newarray .int, 2) := by decide +kernel
theorem dX5_init_25 : decode cX5_init 25 = .ok (.putfield 16, 3) := by decide +kernel
theorem dX5_init_28 : decode cX5_init 28 = .ok (.aload_n 0, 1) := by decide +kernel
theorem dX5_init_29 : decode cX5_init 29 = .ok (.iconst 2, 1) := by decide +kernel
theorem dX5_init_30 : decode cX5_init 30 = .ok (.putfield 19, 3) := by decide +kernel
theorem dX5_init_33 : decode cX5_init 33 = .ok (.aload_n 0, 1) := by decide +kernel
theorem dX5_init_34 : decode cX5_init 34 = .ok (.bipush 20, 2) := by decide +kernel
theorem dX5_init_36 : decode cX5_init 36 = .ok (.putfield 23, 3) := by decide +kernel
theorem dX5_init_39 : decode cX5_init 39 = .ok (.aload_n 0, 1) := by decide +kernel
theorem dX5_init_40 : decode cX5_init 40 = .ok (.bipush 24, 2) := by decide +kernel
theorem dX5_init_42 : decode cX5_init 42 = .ok (.newarray .int, 2) := by decide +kernel
theorem dX5_init_44 : decode cX5_init 44 = .ok (.putfield 26, 3) := by decide +kernel
theorem dX5_init_47 : decode cX5_init 47 = .ok (.aload_n 0, 1) := by decide +kernel
theorem dX5_init_48 : decode cX5_init 48 = .ok (.bipush 24, 2) := by decide +kernel
theorem dX5_init_50 : decode cX5_init 50 = .ok (.newarray .int, 2) := by decide +kernel
theorem dX5_init_52 : decode cX5_init 52 = .ok (.putfield 29, 3) := by decide +kernel
theorem dX5_init_55 : decode cX5_init 55 = .ok (.aload_n 0, 1) := by decide +kernel
theorem dX5_init_56 : decode cX5_init 56 = .ok (.bipush 24, 2) := by decide +kernel
theorem dX5_init_58 : decode cX5_init 58 = .ok (.newarray .long, 2) := by decide +kernel
theorem dX5_init_60 : decode cX5_init 60 = .ok (.putfield 32, 3) := by decide +kernel
theorem dX5_init_63 : decode cX5_init 63 = .ok (.aload_n 0, 1) := by decide +kernel
theorem dX5_init_64 : decode cX5_init 64 = .ok (.bipush 24, 2) := by decide +kernel
theorem dX5_init_66 : decode cX5_init 66 = .ok (.newarray .int, 2) := by decide +kernel
theorem dX5_init_68 : decode cX5_init 68 = .ok (.putfield 36, 3) := by decide +kernel
theorem dX5_init_71 : decode cX5_init 71 = .ok (.aload_n 0, 1) := by decide +kernel
theorem dX5_init_72 : decode cX5_init 72 = .ok (.bipush 72, 2) := by decide +kernel
theorem dX5_init_74 : decode cX5_init 74 = .ok (.newarray .int, 2) := by decide +kernel
theorem dX5_init_76 : decode cX5_init 76 = .ok (.putfield 39, 3) := by decide +kernel
theorem dX5_init_79 : decode cX5_init 79 = .ok (.aload_n 0, 1) := by decide +kernel
theorem dX5_init_80 : decode cX5_init 80 = .ok (.bipush 24, 2) := by decide +kernel
theorem dX5_init_82 : decode cX5_init 82 = .ok (.newarray .int, 2) := by decide +kernel
theorem dX5_init_84 : decode cX5_init 84 = .ok (.putfield 42, 3) := by decide +kernel
theorem dX5_init_87 : decode cX5_init 87 = .ok (.aload_n 0, 1) := by decide +kernel
theorem dX5_init_88 : decode cX5_init 88 = .ok (.bipush 24, 2) := by decide +kernel
theorem dX5_init_90 : decode cX5_init 90 = .ok (.newarray .int, 2) := by decide +kernel
theorem dX5_init_92 : decode cX5_init 92 = .ok (.putfield 45, 3) := by decide +kernel
theorem dX5_init_95 : decode cX5_init 95 = .ok (.aload_n 0, 1) := by decide +kernel
theorem dX5_init_96 : decode cX5_init 96 = .ok (.bipush 24, 2) := by decide +kernel
theorem dX5_init_98 : decode cX5_init 98 = .ok (.newarray .int, 2) := by decide +kernel
theorem dX5_init_100 : decode cX5_init 100 = .ok (.putfield 48, 3) := by decide +kernel
theorem dX5_init_103 : decode cX5_init 103 = .ok (.aload_n 0, 1) := by decide +kernel
theorem dX5_init_104 : decode cX5_init 104 = .ok (.bipush 96, 2) := by decide +kernel
theorem dX5_init_106 : decode cX5_init 106 = .ok (.newarray .int, 2) := by decide +kernel
theorem dX5_init_108 : decode cX5_init 108 = .ok (.putfield 51, 3) := by decide +kernel
theorem dX5_init_111 : decode cX5_init 111 = .ok (.aload_n 0, 1) := by decide +kernel
theorem dX5_init_112 : decode cX5_init 112 = .ok (.bipush 30, 2) := by decide +kernel
theorem dX5_init_114 : decode cX5_init 114 = .ok (.newarray .long, 2) := by decide +kernel
theorem dX5_init_116 : decode cX5_init 116 = .ok (.putfield 54, 3) := by decide +kernel
theorem dX5_init_119 : decode cX5_init 119 = .ok (.aload_n 0, 1) := by decide +kernel
theorem dX5_init_120 : decode cX5_init 120 = .ok (.bipush 90, 2) := by decide +kernel
theorem dX5_init_122 : decode cX5_init 122 = .ok (.newarray .int, 2) := by decide +kernel
theorem dX5_init_124 : decode cX5_init 124 = .ok (.putfield 57, 3) := by decide +kernel
theorem dX5_init_127 : decode cX5_init 127 = .ok (.aload_n 0, 1) := by decide +kernel
theorem dX5_init_128 : decode cX5_init 128 = .ok (.bipush 24, 2) := by decide +kernel
theorem dX5_init_130 : decode cX5_init 130 = .ok (.newarray .boolean, 2) := by decide +kernel
theorem dX5_init_132 : decode cX5_init 132 = .ok (.putfield 60, 3) := by decide +kernel
theorem dX5_init_135 : decode cX5_init 135 = .ok (.aload_n 0, 1) := by decide +kernel
theorem dX5_init_136 : decode cX5_init 136 = .ok (.bipush 24, 2) := by decide +kernel
theorem dX5_init_138 : decode cX5_init 138 = .ok (.newarray .long, 2) := by decide +kernel
theorem dX5_init_140 : decode cX5_init 140 = .ok (.putfield 64, 3) := by decide +kernel
theorem dX5_init_143 : decode cX5_init 143 = .ok (.aload_n 0, 1) := by decide +kernel
theorem dX5_init_144 : decode cX5_init 144 = .ok (.bipush 72, 2) := by decide +kernel
theorem dX5_init_146 : decode cX5_init 146 = .ok (.newarray .int, 2) := by decide +kernel
theorem dX5_init_148 : decode cX5_init 148 = .ok (.putfield 67, 3) := by decide +kernel
theorem dX5_init_151 : decode cX5_init 151 = .ok (.aload_n 0, 1) := by decide +kernel
theorem dX5_init_152 : decode cX5_init 152 = .ok (.bipush 24, 2) := by decide +kernel
theorem dX5_init_154 : decode cX5_init 154 = .ok (.newarray .int, 2) := by decide +kernel
theorem dX5_init_156 : decode cX5_init 156 = .ok (.putfield 70, 3) := by decide +kernel
theorem dX5_init_159 : decode cX5_init 159 = .ok (.aload_n 0, 1) := by decide +kernel
theorem dX5_init_160 : decode cX5_init 160 = .ok (.bipush 24, 2) := by decide +kernel
theorem dX5_init_162 : decode cX5_init 162 = .ok (.newarray .boolean, 2) := by decide +kernel
theorem dX5_init_164 : decode cX5_init 164 = .ok (.putfield 73, 3) := by decide +kernel
theorem dX5_init_167 : decode cX5_init 167 = .ok (.aload_n 0, 1) := by decide +kernel
theorem dX5_init_168 : decode cX5_init 168 = .ok (.bipush 30, 2) := by decide +kernel
theorem dX5_init_170 : decode cX5_init 170 = .ok (.newarray .int, 2) := by decide +kernel
theorem dX5_init_172 : decode cX5_init 172 = .ok (.putfield 76, 3) := by decide +kernel
theorem dX5_init_175 : decode cX5_init 175 = .ok (.iconst 0, 1) := by decide +kernel
theorem dX5_init_176 : decode cX5_init 176 = .ok (.istore_n 1, 1) := by decide +kernel
theorem dX5_init_177 : decode cX5_init 177 = .ok (.iload_n 1, 1) := by decide +kernel
theorem dX5_init_178 : decode cX5_init 178 = .ok (.bipush 40, 2) := by decide +kernel
theorem dX5_init_180 : decode cX5_init 180 = .ok (.if_icmp .ge 16, 3) := by decide +kernel
theorem dX5_init_183 : decode cX5_init 183 = .ok (.aload_n 0, 1) := by decide +kernel
theorem dX5_init_184 : decode cX5_init 184 = .ok (.getfield 7, 3) := by decide +kernel
theorem dX5_init_187 : decode cX5_init 187 = .ok (.iload_n 1, 1) := by decide +kernel
theorem dX5_init_188 : decode cX5_init 188 = .ok (.iload_n 1, 1) := by decide +kernel
theorem dX5_init_189 : decode cX5_init 189 = .ok (.iastore, 1) := by decide +kernel
theorem dX5_init_190 : decode cX5_init 190 = .ok (.iinc 1 1, 3) := by decide +kernel
theorem dX5_init_193 : decode cX5_init 193 = .ok (.goto (-16), 3) := by decide +kernel
theorem dX5_init_196 : decode cX5_init 196 = .ok (.return_, 1) := by decide +kernel
theorem dX5_in_0 : decode cX5_in 0 = .ok (.lload_n 0, 1) := by decide +kernel
theorem dX5_in_1 : decode cX5_in 1 = .ok (.lload_n 2, 1) := by decide +kernel
theorem dX5_in_2 : decode cX5_in 2 = .ok (.lcmp, 1) := by decide +kernel
theorem dX5_in_3 : decode cX5_in 3 = .ok (.ifCond .lt 14, 3) := by decide +kernel
theorem dX5_in_6 : decode cX5_in 6 = .ok (.lload_n 0, 1) := by decide +kernel
theorem dX5_in_7 : decode cX5_in 7 = .ok (.lload 4, 2) := by decide +kernel
theorem dX5_in_9 : decode cX5_in 9 = .ok (.lcmp, 1) := by decide +kernel
theorem dX5_in_10 : decode cX5_in 10 = .ok (.ifCond .gt 7, 3) := by decide +kernel
theorem dX5_in_13 : decode cX5_in 13 = .ok (.iconst 1, 1) := by decide +kernel
theorem dX5_in_14 : decode cX5_in 14 = .ok (.goto 4, 3) := by decide +kernel
theorem dX5_in_17 : decode cX5_in 17 = .ok (.iconst 0, 1) := by decide +kernel
theorem dX5_in_18 : decode cX5_in 18 = .ok (.ireturn, 1) := by decide +kernel
theorem dX5_is_0 : decode cX5_is 0 = .ok (.iload_n 1, 1) := by decide +kernel
theorem dX5_is_1 : decode cX5_is 1 = .ok (.i2l, 1) := by decide +kernel
theorem dX5_is_2 : decode cX5_is 2 = .ok (.lconst 0, 1) := by decide +kernel
theorem dX5_is_3 : decode cX5_is 3 = .ok (.aload_n 0, 1) := by decide +kernel
theorem dX5_is_4 : decode cX5_is 4 = .ok (.getfield 79, 3) := by decide +kernel
theorem dX5_is_7 : decode cX5_is 7 = .ok (.iconst 1, 1) := by decide +kernel
theorem dX5_is_8 : decode cX5_is 8 = .ok (.isub, 1) := by decide +kernel
theorem dX5_is_9 : decode cX5_is 9 = .ok (.i2l, 1) := by decide +kernel
theorem dX5_is_10 : decode cX5_is 10 = .ok (.invokestatic 82, 3) := by decide +kernel
theorem dX5_is_13 : decode cX5_is 13 = .ok (.ireturn, 1) := by decide +kernel
theorem dX5_isPlain_0 : decode cX5_isPlain 0 = .ok (.aload_n 0, 1) := by decide +kernel
theorem dX5_isPlain_1 : decode cX5_isPlain 1 = .ok (.getfield 26, 3) := by decide +kernel
theorem dX5_isPlain_4 : decode cX5_isPlain 4 = .ok (.iload_n 1, 1) := by decide +kernel
theorem dX5_isPlain_5 : decode cX5_isPlain 5 = .ok (.iaload, 1) := by decide +kernel
theorem dX5_isPlain_6 : decode cX5_isPlain 6 = .ok (.ifCond .ne 16, 3) := by decide +kernel
theorem dX5_isPlain_9 : decode cX5_isPlain 9 = .ok (.aload_n 0, 1) := by decide +kernel
theorem dX5_isPlain_10 : decode cX5_isPlain 10 = .ok (.getfield 29, 3) := by decide +kernel
theorem dX5_isPlain_13 : decode cX5_isPlain 13 = .ok (.iload_n 1, 1) := by decide +kernel
theorem dX5_isPlain_14 : decode cX5_isPlain 14 = .ok (.iaload, 1) := by decide +kernel
theorem dX5_isPlain_15 : decode cX5_isPlain 15 = .ok (.ifCond .ge 7, 3) := by decide +kernel
theorem dX5_isPlain_18 : decode cX5_isPlain 18 = .ok (.iconst 1, 1) := by decide +kernel
theorem dX5_isPlain_19 : decode cX5_isPlain 19 = .ok (.goto 4, 3) := by decide +kernel
theorem dX5_isPlain_22 : decode cX5_isPlain 22 = .ok (.iconst 0, 1) := by decide +kernel
theorem dX5_isPlain_23 : decode cX5_isPlain 23 = .ok (.ireturn, 1) := by decide +kernel
theorem dX5_endOf_0 : decode cX5_endOf 0 = .ok (.iload_n 1, 1) := by decide +kernel
theorem dX5_endOf_1 : decode cX5_endOf 1 = .ok (.istore_n 2, 1) := by decide +kernel
theorem dX5_endOf_2 : decode cX5_endOf 2 = .ok (.aload_n 0, 1) := by decide +kernel
theorem dX5_endOf_3 : decode cX5_endOf 3 = .ok (.getfield 29, 3) := by decide +kernel
theorem dX5_endOf_6 : decode cX5_endOf 6 = .ok (.iload_n 2, 1) := by decide +kernel
theorem dX5_endOf_7 : decode cX5_endOf 7 = .ok (.iaload, 1) := by decide +kernel
theorem dX5_endOf_8 : decode cX5_endOf 8 = .ok (.ifCond .lt 13, 3) := by decide +kernel
theorem dX5_endOf_11 : decode cX5_endOf 11 = .ok (.aload_n 0, 1) := by decide +kernel
theorem dX5_endOf_12 : decode cX5_endOf 12 = .ok (.getfield 29, 3) := by decide +kernel
theorem dX5_endOf_15 : decode cX5_endOf 15 = .ok (.iload_n 2, 1) := by decide +kernel
theorem dX5_endOf_16 : decode cX5_endOf 16 = .ok (.iaload, 1) := by decide +kernel
theorem dX5_endOf_17 : decode cX5_endOf 17 = .ok (.istore_n 2, 1) := by decide +kernel
theorem dX5_endOf_18 : decode cX5_endOf 18 = .ok (.goto (-16), 3) := by decide +kernel
theorem dX5_endOf_21 : decode cX5_endOf 21 = .ok (.iload_n 2, 1) := by decide +kernel
theorem dX5_endOf_22 : decode cX5_endOf 22 = .ok (.ireturn, 1) := by decide +kernel
theorem dX5_allOf_0 : decode cX5_allOf 0 = .ok (.iload_n 0, 1) := by decide +kernel
theorem dX5_allOf_1 : decode cX5_allOf 1 = .ok (.ifCond .ne 9, 3) := by decide +kernel
theorem dX5_allOf_4 : decode cX5_allOf 4 = .ok (.sipush 255, 3) := by decide +kernel
theorem dX5_allOf_7 : decode cX5_allOf 7 = .ok (.goto 16, 3) := by decide +kernel
theorem dX5_allOf_10 : decode cX5_allOf 10 = .ok (.iload_n 0, 1) := by decide +kernel
theorem dX5_allOf_11 : decode cX5_allOf 11 = .ok (.iconst 1, 1) := by decide +kernel
theorem dX5_allOf_12 : decode cX5_allOf 12 = .ok (.if_icmp .ne 9, 3) := by decide +kernel
theorem dX5_allOf_15 : decode cX5_allOf 15 = .ok (.sipush 1023, 3) := by decide +kernel
theorem dX5_allOf_18 : decode cX5_allOf 18 = .ok (.goto 5, 3) := by decide +kernel
theorem dX5_allOf_21 : decode cX5_allOf 21 = .ok (.bipush 15, 2) := by decide +kernel
theorem dX5_allOf_23 : decode cX5_allOf 23 = .ok (.ireturn, 1) := by decide +kernel
theorem dX5_fold_0 : decode cX5_fold 0 = .ok (.iload_n 1, 1) := by decide +kernel
theorem dX5_fold_1 : decode cX5_fold 1 = .ok (.i2l, 1) := by decide +kernel
theorem dX5_fold_2 : decode cX5_fold 2 = .ok (.lconst 0, 1) := by decide +kernel
theorem dX5_fold_3 : decode cX5_fold 3 = .ok (.ldc2_w 86, 3) := by decide +kernel
theorem dX5_fold_6 : decode cX5_fold 6 = .ok (.invokestatic 82, 3) := by decide +kernel
theorem dX5_fold_9 : decode cX5_fold 9 = .ok (.ifCond .eq 15, 3) := by decide +kernel
theorem dX5_fold_12 : decode cX5_fold 12 = .ok (.iload_n 2, 1) := by decide +kernel
theorem dX5_fold_13 : decode cX5_fold 13 = .ok (.i2l, 1) := by decide +kernel
theorem dX5_fold_14 : decode cX5_fold 14 = .ok (.lconst 0, 1) := by decide +kernel
theorem dX5_fold_15 : decode cX5_fold 15 = .ok (.ldc2_w 86, 3) := by decide +kernel
theorem dX5_fold_18 : decode cX5_fold 18 = .ok (.invokestatic 82, 3) := by decide +kernel
theorem dX5_fold_21 : decode cX5_fold 21 = .ok (.ifCond .ne 7, 3) := by decide +kernel
theorem dX5_fold_24 : decode cX5_fold 24 = .ok (.sipush (-1002), 3) := by decide +kernel
theorem dX5_fold_27 : decode cX5_fold 27 = .ok (.ireturn, 1) := by decide +kernel
theorem dX5_fold_28 : decode cX5_fold 28 = .ok (.aload_n 0, 1) := by decide +kernel
theorem dX5_fold_29 : decode cX5_fold 29 = .ok (.getfield 7, 3) := by decide +kernel
theorem dX5_fold_32 : decode cX5_fold 32 = .ok (.iload_n 1, 1) := by decide +kernel
theorem dX5_fold_33 : decode cX5_fold 33 = .ok (.iaload, 1) := by decide +kernel
theorem dX5_fold_34 : decode cX5_fold 34 = .ok (.istore_n 3, 1) := by decide +kernel
theorem dX5_fold_35 : decode cX5_fold 35 = .ok (.aload_n 0, 1) := by decide +kernel
theorem dX5_fold_36 : decode cX5_fold 36 = .ok (.getfield 7, 3) := by decide +kernel
theorem dX5_fold_39 : decode cX5_fold 39 = .ok (.iload_n 1, 1) := by decide +kernel
theorem dX5_fold_40 : decode cX5_fold 40 = .ok (.iload_n 2, 1) := by decide +kernel
theorem dX5_fold_41 : decode cX5_fold 41 = .ok (.iastore, 1) := by decide +kernel
theorem dX5_fold_42 : decode cX5_fold 42 = .ok (.iload_n 3, 1) := by decide +kernel
theorem dX5_fold_43 : decode cX5_fold 43 = .ok (.ireturn, 1) := by decide +kernel
theorem dX5_folded_0 : decode cX5_folded 0 = .ok (.lconst 0, 1) := by decide +kernel
theorem dX5_folded_1 : decode cX5_folded 1 = .ok (.lstore_n 3, 1) := by decide +kernel
theorem dX5_folded_2 : decode cX5_folded 2 = .ok (.iconst 0, 1) := by decide +kernel
theorem dX5_folded_3 : decode cX5_folded 3 = .ok (.istore 5, 2) := by decide +kernel
theorem dX5_folded_5 : decode cX5_folded 5 = .ok (.iload 5, 2) := by decide +kernel
theorem dX5_folded_7 : decode cX5_folded 7 = .ok (.bipush 40, 2) := by decide +kernel
theorem dX5_folded_9 : decode cX5_folded 9 = .ok (.if_icmp .ge 26, 3) := by decide +kernel
theorem dX5_folded_12 : decode cX5_folded 12 = .ok (.lload_n 3, 1) := by decide +kernel
theorem dX5_folded_13 : decode cX5_folded 13 = .ok (.lload_n 1, 1) := by decide +kernel
theorem dX5_folded_14 : decode cX5_folded 14 = .ok (.iload 5, 2) := by decide +kernel
theorem dX5_folded_16 : decode cX5_folded 16 = .ok (.lshr, 1) := by decide +kernel
theorem dX5_folded_17 : decode cX5_folded 17 = .ok (.lconst 1, 1) := by decide +kernel
theorem dX5_folded_18 : decode cX5_folded 18 = .ok (.land, 1) := by decide +kernel
theorem dX5_folded_19 : decode cX5_folded 19 = .ok (.aload_n 0, 1) := by decide +kernel
theorem dX5_folded_20 : decode cX5_folded 20 = .ok (.getfield 7, 3) := by decide +kernel
theorem dX5_folded_23 : decode cX5_folded 23 = .ok (.iload 5, 2) := by decide +kernel
theorem dX5_folded_25 : decode cX5_folded 25 = .ok (.iaload, 1) := by decide +kernel
theorem dX5_folded_26 : decode cX5_folded 26 = .ok (.lshl, 1) := by decide +kernel
theorem dX5_folded_27 : decode cX5_folded 27 = .ok (.lor, 1) := by decide +kernel
theorem dX5_folded_28 : decode cX5_folded 28 = .ok (.lstore_n 3, 1) := by decide +kernel
theorem dX5_folded_29 : decode cX5_folded 29 = .ok (.iinc 5 1, 3) := by decide +kernel
theorem dX5_folded_32 : decode cX5_folded 32 = .ok (.goto (-27), 3) := by decide +kernel
theorem dX5_folded_35 : decode cX5_folded 35 = .ok (.lload_n 3, 1) := by decide +kernel
theorem dX5_folded_36 : decode cX5_folded 36 = .ok (.lreturn, 1) := by decide +kernel
theorem dX5_many_0 : decode cX5_many 0 = .ok (.iconst 0, 1) := by decide +kernel
theorem dX5_many_1 : decode cX5_many 1 = .ok (.istore_n 2, 1) := by decide +kernel
theorem dX5_many_2 : decode cX5_many 2 = .ok (.iconst 0, 1) := by decide +kernel
theorem dX5_many_3 : decode cX5_many 3 = .ok (.istore_n 3, 1) := by decide +kernel
theorem dX5_many_4 : decode cX5_many 4 = .ok (.iload_n 3, 1) := by decide +kernel
theorem dX5_many_5 : decode cX5_many 5 = .ok (.bipush 40, 2) := by decide +kernel
theorem dX5_many_7 : decode cX5_many 7 = .ok (.if_icmp .ge 18, 3) := by decide +kernel
theorem dX5_many_10 : decode cX5_many 10 = .ok (.iload_n 2, 1) := by decide +kernel
theorem dX5_many_11 : decode cX5_many 11 = .ok (.lload_n 0, 1) := by decide +kernel
theorem dX5_many_12 : decode cX5_many 12 = .ok (.iload_n 3, 1) := by decide +kernel
theorem dX5_many_13 : decode cX5_many 13 = .ok (.lshr, 1) := by decide +kernel
theorem dX5_many_14 : decode cX5_many 14 = .ok (.lconst 1, 1) := by decide +kernel
theorem dX5_many_15 : decode cX5_many 15 = .ok (.land, 1) := by decide +kernel
theorem dX5_many_16 : decode cX5_many 16 = .ok (.l2i, 1) := by decide +kernel
theorem dX5_many_17 : decode cX5_many 17 = .ok (.iadd, 1) := by decide +kernel
theorem dX5_many_18 : decode cX5_many 18 = .ok (.istore_n 2, 1) := by decide +kernel
theorem dX5_many_19 : decode cX5_many 19 = .ok (.iinc 3 1, 3) := by decide +kernel
theorem dX5_many_22 : decode cX5_many 22 = .ok (.goto (-18), 3) := by decide +kernel
theorem dX5_many_25 : decode cX5_many 25 = .ok (.iload_n 2, 1) := by decide +kernel
theorem dX5_many_26 : decode cX5_many 26 = .ok (.ireturn, 1) := by decide +kernel
theorem dX5_changed_0 : decode cX5_changed 0 = .ok (.iload_n 1, 1) := by decide +kernel
theorem dX5_changed_1 : decode cX5_changed 1 = .ok (.i2l, 1) := by decide +kernel
theorem dX5_changed_2 : decode cX5_changed 2 = .ok (.lconst 0, 1) := by decide +kernel
theorem dX5_changed_3 : decode cX5_changed 3 = .ok (.ldc2_w 88, 3) := by decide +kernel
theorem dX5_changed_6 : decode cX5_changed 6 = .ok (.invokestatic 82, 3) := by decide +kernel
theorem dX5_changed_9 : decode cX5_changed 9 = .ok (.ifCond .ne 7, 3) := by decide +kernel
theorem dX5_changed_12 : decode cX5_changed 12 = .ok (.sipush (-1001), 3) := by decide +kernel
theorem dX5_changed_15 : decode cX5_changed 15 = .ok (.ireturn, 1) := by decide +kernel
theorem dX5_changed_16 : decode cX5_changed 16 = .ok (.aload_n 0, 1) := by decide +kernel
theorem dX5_changed_17 : decode cX5_changed 17 = .ok (.dup, 1) := by decide +kernel
theorem dX5_changed_18 : decode cX5_changed 18 = .ok (.getfield 90, 3) := by decide +kernel
theorem dX5_changed_21 : decode cX5_changed 21 = .ok (.iconst 1, 1) := by decide +kernel
theorem dX5_changed_22 : decode cX5_changed 22 = .ok (.iadd, 1) := by decide +kernel
theorem dX5_changed_23 : decode cX5_changed 23 = .ok (.putfield 90, 3) := by decide +kernel
theorem dX5_changed_26 : decode cX5_changed 26 = .ok (.aload_n 0, 1) := by decide +kernel
theorem dX5_changed_27 : decode cX5_changed 27 = .ok (.getfield 16, 3) := by decide +kernel
theorem dX5_changed_30 : decode cX5_changed 30 = .ok (.iload_n 1, 1) := by decide +kernel
theorem dX5_changed_31 : decode cX5_changed 31 = .ok (.aload_n 0, 1) := by decide +kernel
theorem dX5_changed_32 : decode cX5_changed 32 = .ok (.getfield 90, 3) := by decide +kernel
theorem dX5_changed_35 : decode cX5_changed 35 = .ok (.iastore, 1) := by decide +kernel
theorem dX5_changed_36 : decode cX5_changed 36 = .ok (.aload_n 0, 1) := by decide +kernel
theorem dX5_changed_37 : decode cX5_changed 37 = .ok (.getfield 13, 3) := by decide +kernel
theorem dX5_changed_40 : decode cX5_changed 40 = .ok (.iload_n 1, 1) := by decide +kernel
theorem dX5_changed_41 : decode cX5_changed 41 = .ok (.dup2, 1) := by decide +kernel
theorem dX5_changed_42 : decode cX5_changed 42 = .ok (.iaload, 1) := by decide +kernel
theorem dX5_changed_43 : decode cX5_changed 43 = .ok (.iconst 1, 1) := by decide +kernel
theorem dX5_changed_44 : decode cX5_changed 44 = .ok (.iadd, 1) := by decide +kernel
theorem dX5_changed_45 : decode cX5_changed 45 = .ok (.iastore, 1) := by decide +kernel
theorem dX5_changed_46 : decode cX5_changed 46 = .ok (.aload_n 0, 1) := by decide +kernel
theorem dX5_changed_47 : decode cX5_changed 47 = .ok (.getfield 13, 3) := by decide +kernel
theorem dX5_changed_50 : decode cX5_changed 50 = .ok (.iload_n 1, 1) := by decide +kernel
theorem dX5_changed_51 : decode cX5_changed 51 = .ok (.iaload, 1) := by decide +kernel
theorem dX5_changed_52 : decode cX5_changed 52 = .ok (.ireturn, 1) := by decide +kernel
theorem dX5_rule_0 : decode cX5_rule 0 = .ok (.iload_n 1, 1) := by decide +kernel
theorem dX5_rule_1 : decode cX5_rule 1 = .ok (.i2l, 1) := by decide +kernel
theorem dX5_rule_2 : decode cX5_rule 2 = .ok (.lconst 0, 1) := by decide +kernel
theorem dX5_rule_3 : decode cX5_rule 3 = .ok (.lconst 1, 1) := by decide +kernel
theorem dX5_rule_4 : decode cX5_rule 4 = .ok (.invokestatic 82, 3) := by decide +kernel
theorem dX5_rule_7 : decode cX5_rule 7 = .ok (.ifCond .eq 25, 3) := by decide +kernel
theorem dX5_rule_10 : decode cX5_rule 10 = .ok (.iload_n 2, 1) := by decide +kernel
theorem dX5_rule_11 : decode cX5_rule 11 = .ok (.i2l, 1) := by decide +kernel
theorem dX5_rule_12 : decode cX5_rule 12 = .ok (.lconst 0, 1) := by decide +kernel
theorem dX5_rule_13 : decode cX5_rule 13 = .ok (.iload_n 1, 1) := by decide +kernel
theorem dX5_rule_14 : decode cX5_rule 14 = .ok (.ifCond .ne 9, 3) := by decide +kernel
theorem dX5_rule_17 : decode cX5_rule 17 = .ok (.ldc2_w 93, 3) := by decide +kernel
theorem dX5_rule_20 : decode cX5_rule 20 = .ok (.goto 6, 3) := by decide +kernel
theorem dX5_rule_23 : decode cX5_rule 23 = .ok (.ldc2_w 95, 3) := by decide +kernel
theorem dX5_rule_26 : decode cX5_rule 26 = .ok (.invokestatic 82, 3) := by decide +kernel
theorem dX5_rule_29 : decode cX5_rule 29 = .ok (.ifCond .ne 7, 3) := by decide +kernel
theorem dX5_rule_32 : decode cX5_rule 32 = .ok (.sipush (-1002), 3) := by decide +kernel
theorem dX5_rule_35 : decode cX5_rule 35 = .ok (.ireturn, 1) := by decide +kernel
theorem dX5_rule_36 : decode cX5_rule 36 = .ok (.iload_n 1, 1) := by decide +kernel
theorem dX5_rule_37 : decode cX5_rule 37 = .ok (.ifCond .ne 10, 3) := by decide +kernel
theorem dX5_rule_40 : decode cX5_rule 40 = .ok (.aload_n 0, 1) := by decide +kernel
theorem dX5_rule_41 : decode cX5_rule 41 = .ok (.getfield 19, 3) := by decide +kernel
theorem dX5_rule_44 : decode cX5_rule 44 = .ok (.goto 7, 3) := by decide +kernel
theorem dX5_rule_47 : decode cX5_rule 47 = .ok (.aload_n 0, 1) := by decide +kernel
theorem dX5_rule_48 : decode cX5_rule 48 = .ok (.getfield 23, 3) := by decide +kernel
theorem dX5_rule_51 : decode cX5_rule 51 = .ok (.istore_n 3, 1) := by decide +kernel
theorem dX5_rule_52 : decode cX5_rule 52 = .ok (.aload_n 0, 1) := by decide +kernel
theorem dX5_rule_53 : decode cX5_rule 53 = .ok (.iload_n 1, 1) := by decide +kernel
theorem dX5_rule_54 : decode cX5_rule 54 = .ok (.ifCond .ne 7, 3) := by decide +kernel
theorem dX5_rule_57 : decode cX5_rule 57 = .ok (.iload_n 2, 1) := by decide +kernel
theorem dX5_rule_58 : decode cX5_rule 58 = .ok (.goto 7, 3) := by decide +kernel
theorem dX5_rule_61 : decode cX5_rule 61 = .ok (.aload_n 0, 1) := by decide +kernel
theorem dX5_rule_62 : decode cX5_rule 62 = .ok (.getfield 19, 3) := by decide +kernel
theorem dX5_rule_65 : decode cX5_rule 65 = .ok (.putfield 19, 3) := by decide +kernel
theorem dX5_rule_68 : decode cX5_rule 68 = .ok (.aload_n 0, 1) := by decide +kernel
theorem dX5_rule_69 : decode cX5_rule 69 = .ok (.iload_n 1, 1) := by decide +kernel
theorem dX5_rule_70 : decode cX5_rule 70 = .ok (.iconst 1, 1) := by decide +kernel
theorem dX5_rule_71 : decode cX5_rule 71 = .ok (.if_icmp .ne 7, 3) := by decide +kernel
theorem dX5_rule_74 : decode cX5_rule 74 = .ok (.iload_n 2, 1) := by decide +kernel
theorem dX5_rule_75 : decode cX5_rule 75 = .ok (.goto 7, 3) := by decide +kernel
theorem dX5_rule_78 : decode cX5_rule 78 = .ok (.aload_n 0, 1) := by decide +kernel
theorem dX5_rule_79 : decode cX5_rule 79 = .ok (.getfield 23, 3) := by decide +kernel
theorem dX5_rule_82 : decode cX5_rule 82 = .ok (.putfield 23, 3) := by decide +kernel
theorem dX5_rule_85 : decode cX5_rule 85 = .ok (.iload_n 3, 1) := by decide +kernel
theorem dX5_rule_86 : decode cX5_rule 86 = .ok (.ireturn, 1) := by decide +kernel
theorem dX5_fresh_0 : decode cX5_fresh 0 = .ok (.aload_n 0, 1) := by decide +kernel
theorem dX5_fresh_1 : decode cX5_fresh 1 = .ok (.getfield 79, 3) := by decide +kernel
theorem dX5_fresh_4 : decode cX5_fresh 4 = .ok (.istore_n 2, 1) := by decide +kernel
theorem dX5_fresh_5 : decode cX5_fresh 5 = .ok (.aload_n 0, 1) := by decide +kernel
theorem dX5_fresh_6 : decode cX5_fresh 6 = .ok (.getfield 26, 3) := by decide +kernel
theorem dX5_fresh_9 : decode cX5_fresh 9 = .ok (.iload_n 2, 1) := by decide +kernel
theorem dX5_fresh_10 : decode cX5_fresh 10 = .ok (.iload_n 1, 1) := by decide +kernel
theorem dX5_fresh_11 : decode cX5_fresh 11 = .ok (.iastore, 1) := by decide +kernel
theorem dX5_fresh_12 : decode cX5_fresh 12 = .ok (.aload_n 0, 1) := by decide +kernel
theorem dX5_fresh_13 : decode cX5_fresh 13 = .ok (.getfield 29, 3) := by decide +kernel
theorem dX5_fresh_16 : decode cX5_fresh 16 = .ok (.iload_n 2, 1) := by decide +kernel
theorem dX5_fresh_17 : decode cX5_fresh 17 = .ok (.iconst (-1), 1) := by decide +kernel
theorem dX5_fresh_18 : decode cX5_fresh 18 = .ok (.iastore, 1) := by decide +kernel
theorem dX5_fresh_19 : decode cX5_fresh 19 = .ok (.aload_n 0, 1) := by decide +kernel
theorem dX5_fresh_20 : decode cX5_fresh 20 = .ok (.getfield 32, 3) := by decide +kernel
theorem dX5_fresh_23 : decode cX5_fresh 23 = .ok (.iload_n 2, 1) := by decide +kernel
theorem dX5_fresh_24 : decode cX5_fresh 24 = .ok (.lconst 0, 1) := by decide +kernel
theorem dX5_fresh_25 : decode cX5_fresh 25 = .ok (.lastore, 1) := by decide +kernel
theorem dX5_fresh_26 : decode cX5_fresh 26 = .ok (.aload_n 0, 1) := by decide +kernel
theorem dX5_fresh_27 : decode cX5_fresh 27 = .ok (.getfield 36, 3) := by decide +kernel
theorem dX5_fresh_30 : decode cX5_fresh 30 = .ok (.iload_n 2, 1) := by decide +kernel
theorem dX5_fresh_31 : decode cX5_fresh 31 = .ok (.iconst (-1), 1) := by decide +kernel
theorem dX5_fresh_32 : decode cX5_fresh 32 = .ok (.iastore, 1) := by decide +kernel
theorem dX5_fresh_33 : decode cX5_fresh 33 = .ok (.aload_n 0, 1) := by decide +kernel
theorem dX5_fresh_34 : decode cX5_fresh 34 = .ok (.getfield 42, 3) := by decide +kernel
theorem dX5_fresh_37 : decode cX5_fresh 37 = .ok (.iload_n 2, 1) := by decide +kernel
theorem dX5_fresh_38 : decode cX5_fresh 38 = .ok (.iconst 0, 1) := by decide +kernel
theorem dX5_fresh_39 : decode cX5_fresh 39 = .ok (.iastore, 1) := by decide +kernel
theorem dX5_fresh_40 : decode cX5_fresh 40 = .ok (.aload_n 0, 1) := by decide +kernel
theorem dX5_fresh_41 : decode cX5_fresh 41 = .ok (.getfield 45, 3) := by decide +kernel
theorem dX5_fresh_44 : decode cX5_fresh 44 = .ok (.iload_n 2, 1) := by decide +kernel
theorem dX5_fresh_45 : decode cX5_fresh 45 = .ok (.aload_n 0, 1) := by decide +kernel
theorem dX5_fresh_46 : decode cX5_fresh 46 = .ok (.getfield 90, 3) := by decide +kernel
theorem dX5_fresh_49 : decode cX5_fresh 49 = .ok (.iastore, 1) := by decide +kernel
theorem dX5_fresh_50 : decode cX5_fresh 50 = .ok (.aload_n 0, 1) := by decide +kernel
theorem dX5_fresh_51 : decode cX5_fresh 51 = .ok (.getfield 48, 3) := by decide +kernel
theorem dX5_fresh_54 : decode cX5_fresh 54 = .ok (.iload_n 2, 1) := by decide +kernel
theorem dX5_fresh_55 : decode cX5_fresh 55 = .ok (.iconst 0, 1) := by decide +kernel
theorem dX5_fresh_56 : decode cX5_fresh 56 = .ok (.iastore, 1) := by decide +kernel
theorem dX5_fresh_57 : decode cX5_fresh 57 = .ok (.iconst 0, 1) := by decide +kernel
theorem dX5_fresh_58 : decode cX5_fresh 58 = .ok (.istore_n 3, 1) := by decide +kernel
theorem dX5_fresh_59 : decode cX5_fresh 59 = .ok (.iload_n 3, 1) := by decide +kernel
theorem dX5_fresh_60 : decode cX5_fresh 60 = .ok (.iconst 4, 1) := by decide +kernel
theorem dX5_fresh_61 : decode cX5_fresh 61 = .ok (.if_icmp .ge 20, 3) := by decide +kernel
theorem dX5_fresh_64 : decode cX5_fresh 64 = .ok (.aload_n 0, 1) := by decide +kernel
theorem dX5_fresh_65 : decode cX5_fresh 65 = .ok (.getfield 51, 3) := by decide +kernel
theorem dX5_fresh_68 : decode cX5_fresh 68 = .ok (.iconst 4, 1) := by decide +kernel
theorem dX5_fresh_69 : decode cX5_fresh 69 = .ok (.iload_n 2, 1) := by decide +kernel
theorem dX5_fresh_70 : decode cX5_fresh 70 = .ok (.imul, 1) := by decide +kernel
theorem dX5_fresh_71 : decode cX5_fresh 71 = .ok (.iload_n 3, 1) := by decide +kernel
theorem dX5_fresh_72 : decode cX5_fresh 72 = .ok (.iadd, 1) := by decide +kernel
theorem dX5_fresh_73 : decode cX5_fresh 73 = .ok (.iconst (-1), 1) := by decide +kernel
theorem dX5_fresh_74 : decode cX5_fresh 74 = .ok (.iastore, 1) := by decide +kernel
theorem dX5_fresh_75 : decode cX5_fresh 75 = .ok (.iinc 3 1, 3) := by decide +kernel
theorem dX5_fresh_78 : decode cX5_fresh 78 = .ok (.goto (-19), 3) := by decide +kernel
theorem dX5_fresh_81 : decode cX5_fresh 81 = .ok (.aload_n 0, 1) := by decide +kernel
theorem dX5_fresh_82 : decode cX5_fresh 82 = .ok (.dup, 1) := by decide +kernel
theorem dX5_fresh_83 : decode cX5_fresh 83 = .ok (.getfield 79, 3) := by decide +kernel
theorem dX5_fresh_86 : decode cX5_fresh 86 = .ok (.iconst 1, 1) := by decide +kernel
theorem dX5_fresh_87 : decode cX5_fresh 87 = .ok (.iadd, 1) := by decide +kernel
theorem dX5_fresh_88 : decode cX5_fresh 88 = .ok (.putfield 79, 3) := by decide +kernel
theorem dX5_fresh_91 : decode cX5_fresh 91 = .ok (.iload_n 2, 1) := by decide +kernel
theorem dX5_fresh_92 : decode cX5_fresh 92 = .ok (.ireturn, 1) := by decide +kernel
theorem dX5_answer_0 : decode cX5_answer 0 = .ok (.lload_n 1, 1) := by decide +kernel
theorem dX5_answer_1 : decode cX5_answer 1 = .ok (.lconst 0, 1) := by decide +kernel
theorem dX5_answer_2 : decode cX5_answer 2 = .ok (.ldc2_w 97, 3) := by decide +kernel
theorem dX5_answer_5 : decode cX5_answer 5 = .ok (.invokestatic 82, 3) := by decide +kernel
theorem dX5_answer_8 : decode cX5_answer 8 = .ok (.ifCond .eq 54, 3) := by decide +kernel
theorem dX5_answer_11 : decode cX5_answer 11 = .ok (.iload_n 3, 1) := by decide +kernel
theorem dX5_answer_12 : decode cX5_answer 12 = .ok (.i2l, 1) := by decide +kernel
theorem dX5_answer_13 : decode cX5_answer 13 = .ok (.lconst 0, 1) := by decide +kernel
theorem dX5_answer_14 : decode cX5_answer 14 = .ok (.ldc2_w 99, 3) := by decide +kernel
theorem dX5_answer_17 : decode cX5_answer 17 = .ok (.invokestatic 82, 3) := by decide +kernel
theorem dX5_answer_20 : decode cX5_answer 20 = .ok (.ifCond .eq 42, 3) := by decide +kernel
theorem dX5_answer_23 : decode cX5_answer 23 = .ok (.iload 4, 2) := by decide +kernel
theorem dX5_answer_25 : decode cX5_answer 25 = .ok (.i2l, 1) := by decide +kernel
theorem dX5_answer_26 : decode cX5_answer 26 = .ok (.lconst 1, 1) := by decide +kernel
theorem dX5_answer_27 : decode cX5_answer 27 = .ok (.ldc2_w 101, 3) := by decide +kernel
theorem dX5_answer_30 : decode cX5_answer 30 = .ok (.invokestatic 82, 3) := by decide +kernel
theorem dX5_answer_33 : decode cX5_answer 33 = .ok (.ifCond .eq 29, 3) := by decide +kernel
theorem dX5_answer_36 : decode cX5_answer 36 = .ok (.iload 5, 2) := by decide +kernel
theorem dX5_answer_38 : decode cX5_answer 38 = .ok (.i2l, 1) := by decide +kernel
theorem dX5_answer_39 : decode cX5_answer 39 = .ok (.lconst 1, 1) := by decide +kernel
theorem dX5_answer_40 : decode cX5_answer 40 = .ok (.ldc2_w 103, 3) := by decide +kernel
theorem dX5_answer_43 : decode cX5_answer 43 = .ok (.invokestatic 82, 3) := by decide +kernel
theorem dX5_answer_46 : decode cX5_answer 46 = .ok (.ifCond .eq 16, 3) := by decide +kernel
theorem dX5_answer_49 : decode cX5_answer 49 = .ok (.iload 6, 2) := by decide +kernel
theorem dX5_answer_51 : decode cX5_answer 51 = .ok (.i2l, 1) := by decide +kernel
theorem dX5_answer_52 : decode cX5_answer 52 = .ok (.lconst 1, 1) := by decide +kernel
theorem dX5_answer_53 : decode cX5_answer 53 = .ok (.ldc2_w 105, 3) := by decide +kernel
theorem dX5_answer_56 : decode cX5_answer 56 = .ok (.invokestatic 82, 3) := by decide +kernel
theorem dX5_answer_59 : decode cX5_answer 59 = .ok (.ifCond .ne 7, 3) := by decide +kernel
theorem dX5_answer_62 : decode cX5_answer 62 = .ok (.sipush (-1002), 3) := by decide +kernel
theorem dX5_answer_65 : decode cX5_answer 65 = .ok (.ireturn, 1) := by decide +kernel
theorem dX5_answer_66 : decode cX5_answer 66 = .ok (.aload_n 0, 1) := by decide +kernel
theorem dX5_answer_67 : decode cX5_answer 67 = .ok (.getfield 79, 3) := by decide +kernel
theorem dX5_answer_70 : decode cX5_answer 70 = .ok (.bipush 24, 2) := by decide +kernel
theorem dX5_answer_72 : decode cX5_answer 72 = .ok (.if_icmp .ne 7, 3) := by decide +kernel
theorem dX5_answer_75 : decode cX5_answer 75 = .ok (.sipush (-1004), 3) := by decide +kernel
theorem dX5_answer_78 : decode cX5_answer 78 = .ok (.ireturn, 1) := by decide +kernel
theorem dX5_answer_79 : decode cX5_answer 79 = .ok (.aload_n 0, 1) := by decide +kernel
theorem dX5_answer_80 : decode cX5_answer 80 = .ok (.iconst 0, 1) := by decide +kernel
theorem dX5_answer_81 : decode cX5_answer 81 = .ok (.invokevirtual 107, 3) := by decide +kernel
theorem dX5_answer_84 : decode cX5_answer 84 = .ok (.istore 7, 2) := by decide +kernel
theorem dX5_answer_86 : decode cX5_answer 86 = .ok (.aload_n 0, 1) := by decide +kernel
theorem dX5_answer_87 : decode cX5_answer 87 = .ok (.getfield 32, 3) := by decide +kernel
theorem dX5_answer_90 : decode cX5_answer 90 = .ok (.iload 7, 2) := by decide +kernel
theorem dX5_answer_92 : decode cX5_answer 92 = .ok (.lload_n 1, 1) := by decide +kernel
theorem dX5_answer_93 : decode cX5_answer 93 = .ok (.lastore, 1) := by decide +kernel
theorem dX5_answer_94 : decode cX5_answer 94 = .ok (.aload_n 0, 1) := by decide +kernel
theorem dX5_answer_95 : decode cX5_answer 95 = .ok (.getfield 36, 3) := by decide +kernel
theorem dX5_answer_98 : decode cX5_answer 98 = .ok (.iload 7, 2) := by decide +kernel
theorem dX5_answer_100 : decode cX5_answer 100 = .ok (.iload_n 3, 1) := by decide +kernel
theorem dX5_answer_101 : decode cX5_answer 101 = .ok (.iastore, 1) := by decide +kernel
theorem dX5_answer_102 : decode cX5_answer 102 = .ok (.aload_n 0, 1) := by decide +kernel
theorem dX5_answer_103 : decode cX5_answer 103 = .ok (.getfield 39, 3) := by decide +kernel
theorem dX5_answer_106 : decode cX5_answer 106 = .ok (.iconst 3, 1) := by decide +kernel
theorem dX5_answer_107 : decode cX5_answer 107 = .ok (.iload 7, 2) := by decide +kernel
theorem dX5_answer_109 : decode cX5_answer 109 = .ok (.imul, 1) := by decide +kernel
theorem dX5_answer_110 : decode cX5_answer 110 = .ok (.iload 4, 2) := by decide +kernel
theorem dX5_answer_112 : decode cX5_answer 112 = .ok (.iastore, 1) := by decide +kernel
theorem dX5_answer_113 : decode cX5_answer 113 = .ok (.aload_n 0, 1) := by decide +kernel
theorem dX5_answer_114 : decode cX5_answer 114 = .ok (.getfield 39, 3) := by decide +kernel
theorem dX5_answer_117 : decode cX5_answer 117 = .ok (.iconst 3, 1) := by decide +kernel
theorem dX5_answer_118 : decode cX5_answer 118 = .ok (.iload 7, 2) := by decide +kernel
theorem dX5_answer_120 : decode cX5_answer 120 = .ok (.imul, 1) := by decide +kernel
theorem dX5_answer_121 : decode cX5_answer 121 = .ok (.iconst 1, 1) := by decide +kernel
theorem dX5_answer_122 : decode cX5_answer 122 = .ok (.iadd, 1) := by decide +kernel
theorem dX5_answer_123 : decode cX5_answer 123 = .ok (.iload 5, 2) := by decide +kernel
theorem dX5_answer_125 : decode cX5_answer 125 = .ok (.iastore, 1) := by decide +kernel
theorem dX5_answer_126 : decode cX5_answer 126 = .ok (.aload_n 0, 1) := by decide +kernel
theorem dX5_answer_127 : decode cX5_answer 127 = .ok (.getfield 39, 3) := by decide +kernel
theorem dX5_answer_130 : decode cX5_answer 130 = .ok (.iconst 3, 1) := by decide +kernel
theorem dX5_answer_131 : decode cX5_answer 131 = .ok (.iload 7, 2) := by decide +kernel
theorem dX5_answer_133 : decode cX5_answer 133 = .ok (.imul, 1) := by decide +kernel
theorem dX5_answer_134 : decode cX5_answer 134 = .ok (.iconst 2, 1) := by decide +kernel
theorem dX5_answer_135 : decode cX5_answer 135 = .ok (.iadd, 1) := by decide +kernel
theorem dX5_answer_136 : decode cX5_answer 136 = .ok (.iload 6, 2) := by decide +kernel
theorem dX5_answer_138 : decode cX5_answer 138 = .ok (.iastore, 1) := by decide +kernel
theorem dX5_answer_139 : decode cX5_answer 139 = .ok (.iload 7, 2) := by decide +kernel
theorem dX5_answer_141 : decode cX5_answer 141 = .ok (.ireturn, 1) := by decide +kernel
theorem dX5_join_0 : decode cX5_join 0 = .ok (.aload_n 0, 1) := by decide +kernel
theorem dX5_join_1 : decode cX5_join 1 = .ok (.iload_n 1, 1) := by decide +kernel
theorem dX5_join_2 : decode cX5_join 2 = .ok (.invokevirtual 111, 3) := by decide +kernel
theorem dX5_join_5 : decode cX5_join 5 = .ok (.ifCond .eq 39, 3) := by decide +kernel
theorem dX5_join_8 : decode cX5_join 8 = .ok (.aload_n 0, 1) := by decide +kernel
theorem dX5_join_9 : decode cX5_join 9 = .ok (.iload_n 2, 1) := by decide +kernel
theorem dX5_join_10 : decode cX5_join 10 = .ok (.invokevirtual 111, 3) := by decide +kernel
theorem dX5_join_13 : decode cX5_join 13 = .ok (.ifCond .eq 31, 3) := by decide +kernel
theorem dX5_join_16 : decode cX5_join 16 = .ok (.iload_n 3, 1) := by decide +kernel
theorem dX5_join_17 : decode cX5_join 17 = .ok (.iconst (-1), 1) := by decide +kernel
theorem dX5_join_18 : decode cX5_join 18 = .ok (.if_icmp .eq 11, 3) := by decide +kernel
theorem dX5_join_21 : decode cX5_join 21 = .ok (.aload_n 0, 1) := by decide +kernel
theorem dX5_join_22 : decode cX5_join 22 = .ok (.iload_n 3, 1) := by decide +kernel
theorem dX5_join_23 : decode cX5_join 23 = .ok (.invokevirtual 111, 3) := by decide +kernel
theorem dX5_join_26 : decode cX5_join 26 = .ok (.ifCond .eq 18, 3) := by decide +kernel
theorem dX5_join_29 : decode cX5_join 29 = .ok (.iload 4, 2) := by decide +kernel
theorem dX5_join_31 : decode cX5_join 31 = .ok (.iconst (-1), 1) := by decide +kernel
theorem dX5_join_32 : decode cX5_join 32 = .ok (.if_icmp .eq 16, 3) := by decide +kernel
theorem dX5_join_35 : decode cX5_join 35 = .ok (.aload_n 0, 1) := by decide +kernel
theorem dX5_join_36 : decode cX5_join 36 = .ok (.iload 4, 2) := by decide +kernel
theorem dX5_join_38 : decode cX5_join 38 = .ok (.invokevirtual 111, 3) := by decide +kernel
theorem dX5_join_41 : decode cX5_join 41 = .ok (.ifCond .ne 7, 3) := by decide +kernel
theorem dX5_join_44 : decode cX5_join 44 = .ok (.sipush (-1001), 3) := by decide +kernel
theorem dX5_join_47 : decode cX5_join 47 = .ok (.ireturn, 1) := by decide +kernel
theorem dX5_join_48 : decode cX5_join 48 = .ok (.aload_n 0, 1) := by decide +kernel
theorem dX5_join_49 : decode cX5_join 49 = .ok (.iload_n 1, 1) := by decide +kernel
theorem dX5_join_50 : decode cX5_join 50 = .ok (.invokevirtual 115, 3) := by decide +kernel
theorem dX5_join_53 : decode cX5_join 53 = .ok (.ifCond .eq 41, 3) := by decide +kernel
theorem dX5_join_56 : decode cX5_join 56 = .ok (.aload_n 0, 1) := by decide +kernel
theorem dX5_join_57 : decode cX5_join 57 = .ok (.iload_n 2, 1) := by decide +kernel
theorem dX5_join_58 : decode cX5_join 58 = .ok (.invokevirtual 115, 3) := by decide +kernel
theorem dX5_join_61 : decode cX5_join 61 = .ok (.ifCond .eq 33, 3) := by decide +kernel
theorem dX5_join_64 : decode cX5_join 64 = .ok (.iload_n 3, 1) := by decide +kernel
theorem dX5_join_65 : decode cX5_join 65 = .ok (.ifCond .lt 11, 3) := by decide +kernel
theorem dX5_join_68 : decode cX5_join 68 = .ok (.aload_n 0, 1) := by decide +kernel
theorem dX5_join_69 : decode cX5_join 69 = .ok (.iload_n 3, 1) := by decide +kernel
theorem dX5_join_70 : decode cX5_join 70 = .ok (.invokevirtual 115, 3) := by decide +kernel
theorem dX5_join_73 : decode cX5_join 73 = .ok (.ifCond .eq 21, 3) := by decide +kernel
theorem dX5_join_76 : decode cX5_join 76 = .ok (.iload 4, 2) := by decide +kernel
theorem dX5_join_78 : decode cX5_join 78 = .ok (.ifCond .lt 12, 3) := by decide +kernel
theorem dX5_join_81 : decode cX5_join 81 = .ok (.aload_n 0, 1) := by decide +kernel
theorem dX5_join_82 : decode cX5_join 82 = .ok (.iload 4, 2) := by decide +kernel
theorem dX5_join_84 : decode cX5_join 84 = .ok (.invokevirtual 115, 3) := by decide +kernel
theorem dX5_join_87 : decode cX5_join 87 = .ok (.ifCond .eq 7, 3) := by decide +kernel
theorem dX5_join_90 : decode cX5_join 90 = .ok (.iconst 1, 1) := by decide +kernel
theorem dX5_join_91 : decode cX5_join 91 = .ok (.goto 4, 3) := by decide +kernel
theorem dX5_join_94 : decode cX5_join 94 = .ok (.iconst 0, 1) := by decide +kernel
theorem dX5_join_95 : decode cX5_join 95 = .ok (.istore 5, 2) := by decide +kernel
theorem dX5_join_97 : decode cX5_join 97 = .ok (.iload_n 1, 1) := by decide +kernel
theorem dX5_join_98 : decode cX5_join 98 = .ok (.iload_n 2, 1) := by decide +kernel
theorem dX5_join_99 : decode cX5_join 99 = .ok (.if_icmp .eq 39, 3) := by decide +kernel
theorem dX5_join_102 : decode cX5_join 102 = .ok (.iload_n 1, 1) := by decide +kernel
theorem dX5_join_103 : decode cX5_join 103 = .ok (.iload_n 3, 1) := by decide +kernel
theorem dX5_join_104 : decode cX5_join 104 = .ok (.if_icmp .eq 34, 3) := by decide +kernel
theorem dX5_join_107 : decode cX5_join 107 = .ok (.iload_n 2, 1) := by decide +kernel
theorem dX5_join_108 : decode cX5_join 108 = .ok (.iload_n 3, 1) := by decide +kernel
theorem dX5_join_109 : decode cX5_join 109 = .ok (.if_icmp .eq 29, 3) := by decide +kernel
theorem dX5_join_112 : decode cX5_join 112 = .ok (.iload_n 1, 1) := by decide +kernel
theorem dX5_join_113 : decode cX5_join 113 = .ok (.iload 4, 2) := by decide +kernel
theorem dX5_join_115 : decode cX5_join 115 = .ok (.if_icmp .eq 23, 3) := by decide +kernel
theorem dX5_join_118 : decode cX5_join 118 = .ok (.iload_n 2, 1) := by decide +kernel
theorem dX5_join_119 : decode cX5_join 119 = .ok (.iload 4, 2) := by decide +kernel
theorem dX5_join_121 : decode cX5_join 121 = .ok (.if_icmp .eq 17, 3) := by decide +kernel
theorem dX5_join_124 : decode cX5_join 124 = .ok (.iload_n 3, 1) := by decide +kernel
theorem dX5_join_125 : decode cX5_join 125 = .ok (.iload 4, 2) := by decide +kernel
theorem dX5_join_127 : decode cX5_join 127 = .ok (.if_icmp .ne 7, 3) := by decide +kernel
theorem dX5_join_130 : decode cX5_join 130 = .ok (.iload_n 3, 1) := by decide +kernel
theorem dX5_join_131 : decode cX5_join 131 = .ok (.ifCond .ge 7, 3) := by decide +kernel
theorem dX5_join_134 : decode cX5_join 134 = .ok (.iconst 1, 1) := by decide +kernel
theorem dX5_join_135 : decode cX5_join 135 = .ok (.goto 4, 3) := by decide +kernel
theorem dX5_join_138 : decode cX5_join 138 = .ok (.iconst 0, 1) := by decide +kernel
theorem dX5_join_139 : decode cX5_join 139 = .ok (.istore 6, 2) := by decide +kernel
theorem dX5_join_141 : decode cX5_join 141 = .ok (.iload 5, 2) := by decide +kernel
theorem dX5_join_143 : decode cX5_join 143 = .ok (.ifCond .eq 17, 3) := by decide +kernel
theorem dX5_join_146 : decode cX5_join 146 = .ok (.iload 6, 2) := by decide +kernel
theorem dX5_join_148 : decode cX5_join 148 = .ok (.ifCond .eq 12, 3) := by decide +kernel
theorem dX5_join_151 : decode cX5_join 151 = .ok (.iload_n 3, 1) := by decide +kernel
theorem dX5_join_152 : decode cX5_join 152 = .ok (.ifCond .ge 12, 3) := by decide +kernel
theorem dX5_join_155 : decode cX5_join 155 = .ok (.iload 4, 2) := by decide +kernel
theorem dX5_join_157 : decode cX5_join 157 = .ok (.ifCond .lt 7, 3) := by decide +kernel
theorem dX5_join_160 : decode cX5_join 160 = .ok (.sipush (-1003), 3) := by decide +kernel
theorem dX5_join_163 : decode cX5_join 163 = .ok (.ireturn, 1) := by decide +kernel
theorem dX5_join_164 : decode cX5_join 164 = .ok (.aload_n 0, 1) := by decide +kernel
theorem dX5_join_165 : decode cX5_join 165 = .ok (.getfield 79, 3) := by decide +kernel
theorem dX5_join_168 : decode cX5_join 168 = .ok (.bipush 24, 2) := by decide +kernel
theorem dX5_join_170 : decode cX5_join 170 = .ok (.if_icmp .ne 7, 3) := by decide +kernel
theorem dX5_join_173 : decode cX5_join 173 = .ok (.sipush (-1004), 3) := by decide +kernel
theorem dX5_join_176 : decode cX5_join 176 = .ok (.ireturn, 1) := by decide +kernel
theorem dX5_join_177 : decode cX5_join 177 = .ok (.aload_n 0, 1) := by decide +kernel
theorem dX5_join_178 : decode cX5_join 178 = .ok (.iconst 1, 1) := by decide +kernel
theorem dX5_join_179 : decode cX5_join 179 = .ok (.invokevirtual 107, 3) := by decide +kernel
theorem dX5_join_182 : decode cX5_join 182 = .ok (.istore 7, 2) := by decide +kernel
theorem dX5_join_184 : decode cX5_join 184 = .ok (.aload_n 0, 1) := by decide +kernel
theorem dX5_join_185 : decode cX5_join 185 = .ok (.getfield 51, 3) := by decide +kernel
theorem dX5_join_188 : decode cX5_join 188 = .ok (.iconst 4, 1) := by decide +kernel
theorem dX5_join_189 : decode cX5_join 189 = .ok (.iload 7, 2) := by decide +kernel
theorem dX5_join_191 : decode cX5_join 191 = .ok (.imul, 1) := by decide +kernel
theorem dX5_join_192 : decode cX5_join 192 = .ok (.iload_n 1, 1) := by decide +kernel
theorem dX5_join_193 : decode cX5_join 193 = .ok (.iastore, 1) := by decide +kernel
theorem dX5_join_194 : decode cX5_join 194 = .ok (.aload_n 0, 1) := by decide +kernel
theorem dX5_join_195 : decode cX5_join 195 = .ok (.getfield 51, 3) := by decide +kernel
theorem dX5_join_198 : decode cX5_join 198 = .ok (.iconst 4, 1) := by decide +kernel
theorem dX5_join_199 : decode cX5_join 199 = .ok (.iload 7, 2) := by decide +kernel
theorem dX5_join_201 : decode cX5_join 201 = .ok (.imul, 1) := by decide +kernel
theorem dX5_join_202 : decode cX5_join 202 = .ok (.iconst 1, 1) := by decide +kernel
theorem dX5_join_203 : decode cX5_join 203 = .ok (.iadd, 1) := by decide +kernel
theorem dX5_join_204 : decode cX5_join 204 = .ok (.iload_n 2, 1) := by decide +kernel
theorem dX5_join_205 : decode cX5_join 205 = .ok (.iastore, 1) := by decide +kernel
theorem dX5_join_206 : decode cX5_join 206 = .ok (.aload_n 0, 1) := by decide +kernel
theorem dX5_join_207 : decode cX5_join 207 = .ok (.getfield 51, 3) := by decide +kernel
theorem dX5_join_210 : decode cX5_join 210 = .ok (.iconst 4, 1) := by decide +kernel
theorem dX5_join_211 : decode cX5_join 211 = .ok (.iload 7, 2) := by decide +kernel
theorem dX5_join_213 : decode cX5_join 213 = .ok (.imul, 1) := by decide +kernel
theorem dX5_join_214 : decode cX5_join 214 = .ok (.iconst 2, 1) := by decide +kernel
theorem dX5_join_215 : decode cX5_join 215 = .ok (.iadd, 1) := by decide +kernel
theorem dX5_join_216 : decode cX5_join 216 = .ok (.iload_n 3, 1) := by decide +kernel
theorem dX5_join_217 : decode cX5_join 217 = .ok (.iastore, 1) := by decide +kernel
theorem dX5_join_218 : decode cX5_join 218 = .ok (.aload_n 0, 1) := by decide +kernel
theorem dX5_join_219 : decode cX5_join 219 = .ok (.getfield 51, 3) := by decide +kernel
theorem dX5_join_222 : decode cX5_join 222 = .ok (.iconst 4, 1) := by decide +kernel
theorem dX5_join_223 : decode cX5_join 223 = .ok (.iload 7, 2) := by decide +kernel
theorem dX5_join_225 : decode cX5_join 225 = .ok (.imul, 1) := by decide +kernel
theorem dX5_join_226 : decode cX5_join 226 = .ok (.iconst 3, 1) := by decide +kernel
theorem dX5_join_227 : decode cX5_join 227 = .ok (.iadd, 1) := by decide +kernel
theorem dX5_join_228 : decode cX5_join 228 = .ok (.iload 4, 2) := by decide +kernel
theorem dX5_join_230 : decode cX5_join 230 = .ok (.iastore, 1) := by decide +kernel
theorem dX5_join_231 : decode cX5_join 231 = .ok (.iload 7, 2) := by decide +kernel
theorem dX5_join_233 : decode cX5_join 233 = .ok (.ireturn, 1) := by decide +kernel
theorem dX5_bind_0 : decode cX5_bind 0 = .ok (.aload_n 0, 1) := by decide +kernel
theorem dX5_bind_1 : decode cX5_bind 1 = .ok (.iload_n 1, 1) := by decide +kernel
theorem dX5_bind_2 : decode cX5_bind 2 = .ok (.invokevirtual 111, 3) := by decide +kernel
theorem dX5_bind_5 : decode cX5_bind 5 = .ok (.ifCond .ne 7, 3) := by decide +kernel
theorem dX5_bind_8 : decode cX5_bind 8 = .ok (.sipush (-1001), 3) := by decide +kernel
theorem dX5_bind_11 : decode cX5_bind 11 = .ok (.ireturn, 1) := by decide +kernel
theorem dX5_bind_12 : decode cX5_bind 12 = .ok (.iload_n 2, 1) := by decide +kernel
theorem dX5_bind_13 : decode cX5_bind 13 = .ok (.i2l, 1) := by decide +kernel
theorem dX5_bind_14 : decode cX5_bind 14 = .ok (.lconst 0, 1) := by decide +kernel
theorem dX5_bind_15 : decode cX5_bind 15 = .ok (.ldc2_w 103, 3) := by decide +kernel
theorem dX5_bind_18 : decode cX5_bind 18 = .ok (.invokestatic 82, 3) := by decide +kernel
theorem dX5_bind_21 : decode cX5_bind 21 = .ok (.ifCond .ne 7, 3) := by decide +kernel
theorem dX5_bind_24 : decode cX5_bind 24 = .ok (.sipush (-1002), 3) := by decide +kernel
theorem dX5_bind_27 : decode cX5_bind 27 = .ok (.ireturn, 1) := by decide +kernel
theorem dX5_bind_28 : decode cX5_bind 28 = .ok (.aload_n 0, 1) := by decide +kernel
theorem dX5_bind_29 : decode cX5_bind 29 = .ok (.iload_n 1, 1) := by decide +kernel
theorem dX5_bind_30 : decode cX5_bind 30 = .ok (.invokevirtual 115, 3) := by decide +kernel
theorem dX5_bind_33 : decode cX5_bind 33 = .ok (.ifCond .ne 7, 3) := by decide +kernel
theorem dX5_bind_36 : decode cX5_bind 36 = .ok (.sipush (-1003), 3) := by decide +kernel
theorem dX5_bind_39 : decode cX5_bind 39 = .ok (.ireturn, 1) := by decide +kernel
theorem dX5_bind_40 : decode cX5_bind 40 = .ok (.aload_n 0, 1) := by decide +kernel
theorem dX5_bind_41 : decode cX5_bind 41 = .ok (.getfield 42, 3) := by decide +kernel
theorem dX5_bind_44 : decode cX5_bind 44 = .ok (.iload_n 1, 1) := by decide +kernel
theorem dX5_bind_45 : decode cX5_bind 45 = .ok (.iaload, 1) := by decide +kernel
theorem dX5_bind_46 : decode cX5_bind 46 = .ok (.istore_n 3, 1) := by decide +kernel
theorem dX5_bind_47 : decode cX5_bind 47 = .ok (.aload_n 0, 1) := by decide +kernel
theorem dX5_bind_48 : decode cX5_bind 48 = .ok (.getfield 42, 3) := by decide +kernel
theorem dX5_bind_51 : decode cX5_bind 51 = .ok (.iload_n 1, 1) := by decide +kernel
theorem dX5_bind_52 : decode cX5_bind 52 = .ok (.iload_n 2, 1) := by decide +kernel
theorem dX5_bind_53 : decode cX5_bind 53 = .ok (.iastore, 1) := by decide +kernel
theorem dX5_bind_54 : decode cX5_bind 54 = .ok (.iload_n 3, 1) := by decide +kernel
theorem dX5_bind_55 : decode cX5_bind 55 = .ok (.ireturn, 1) := by decide +kernel
theorem dX5_confirm_0 : decode cX5_confirm 0 = .ok (.aload_n 0, 1) := by decide +kernel
theorem dX5_confirm_1 : decode cX5_confirm 1 = .ok (.iload_n 1, 1) := by decide +kernel
theorem dX5_confirm_2 : decode cX5_confirm 2 = .ok (.invokevirtual 111, 3) := by decide +kernel
theorem dX5_confirm_5 : decode cX5_confirm 5 = .ok (.ifCond .ne 7, 3) := by decide +kernel
theorem dX5_confirm_8 : decode cX5_confirm 8 = .ok (.sipush (-1001), 3) := by decide +kernel
theorem dX5_confirm_11 : decode cX5_confirm 11 = .ok (.ireturn, 1) := by decide +kernel
theorem dX5_confirm_12 : decode cX5_confirm 12 = .ok (.aload_n 0, 1) := by decide +kernel
theorem dX5_confirm_13 : decode cX5_confirm 13 = .ok (.iload_n 1, 1) := by decide +kernel
theorem dX5_confirm_14 : decode cX5_confirm 14 = .ok (.invokevirtual 115, 3) := by decide +kernel
theorem dX5_confirm_17 : decode cX5_confirm 17 = .ok (.ifCond .ne 7, 3) := by decide +kernel
theorem dX5_confirm_20 : decode cX5_confirm 20 = .ok (.sipush (-1003), 3) := by decide +kernel
theorem dX5_confirm_23 : decode cX5_confirm 23 = .ok (.ireturn, 1) := by decide +kernel
theorem dX5_confirm_24 : decode cX5_confirm 24 = .ok (.aload_n 0, 1) := by decide +kernel
theorem dX5_confirm_25 : decode cX5_confirm 25 = .ok (.invokevirtual 118, 3) := by decide +kernel
theorem dX5_confirm_28 : decode cX5_confirm 28 = .ok (.aload_n 0, 1) := by decide +kernel
theorem dX5_confirm_29 : decode cX5_confirm 29 = .ok (.getfield 45, 3) := by decide +kernel
theorem dX5_confirm_32 : decode cX5_confirm 32 = .ok (.iload_n 1, 1) := by decide +kernel
theorem dX5_confirm_33 : decode cX5_confirm 33 = .ok (.aload_n 0, 1) := by decide +kernel
theorem dX5_confirm_34 : decode cX5_confirm 34 = .ok (.getfield 90, 3) := by decide +kernel
theorem dX5_confirm_37 : decode cX5_confirm 37 = .ok (.iastore, 1) := by decide +kernel
theorem dX5_confirm_38 : decode cX5_confirm 38 = .ok (.aload_n 0, 1) := by decide +kernel
theorem dX5_confirm_39 : decode cX5_confirm 39 = .ok (.getfield 73, 3) := by decide +kernel
theorem dX5_confirm_42 : decode cX5_confirm 42 = .ok (.iload_n 1, 1) := by decide +kernel
theorem dX5_confirm_43 : decode cX5_confirm 43 = .ok (.baload, 1) := by decide +kernel
theorem dX5_confirm_44 : decode cX5_confirm 44 = .ok (.ifCond .eq 7, 3) := by decide +kernel
theorem dX5_confirm_47 : decode cX5_confirm 47 = .ok (.iconst 1, 1) := by decide +kernel
theorem dX5_confirm_48 : decode cX5_confirm 48 = .ok (.goto 4, 3) := by decide +kernel
theorem dX5_confirm_51 : decode cX5_confirm 51 = .ok (.iconst 0, 1) := by decide +kernel
theorem dX5_confirm_52 : decode cX5_confirm 52 = .ok (.ireturn, 1) := by decide +kernel
theorem dX5_workPlain_0 : decode cX5_workPlain 0 = .ok (.aload_n 0, 1) := by decide +kernel
theorem dX5_workPlain_1 : decode cX5_workPlain 1 = .ok (.getfield 60, 3) := by decide +kernel
theorem dX5_workPlain_4 : decode cX5_workPlain 4 = .ok (.iload_n 1, 1) := by decide +kernel
theorem dX5_workPlain_5 : decode cX5_workPlain 5 = .ok (.iconst 1, 1) := by decide +kernel
theorem dX5_workPlain_6 : decode cX5_workPlain 6 = .ok (.bastore, 1) := by decide +kernel
theorem dX5_workPlain_7 : decode cX5_workPlain 7 = .ok (.aload_n 0, 1) := by decide +kernel
theorem dX5_workPlain_8 : decode cX5_workPlain 8 = .ok (.getfield 64, 3) := by decide +kernel
theorem dX5_workPlain_11 : decode cX5_workPlain 11 = .ok (.iload_n 1, 1) := by decide +kernel
theorem dX5_workPlain_12 : decode cX5_workPlain 12 = .ok (.aload_n 0, 1) := by decide +kernel
theorem dX5_workPlain_13 : decode cX5_workPlain 13 = .ok (.getfield 32, 3) := by decide +kernel
theorem dX5_workPlain_16 : decode cX5_workPlain 16 = .ok (.iload_n 1, 1) := by decide +kernel
theorem dX5_workPlain_17 : decode cX5_workPlain 17 = .ok (.laload, 1) := by decide +kernel
theorem dX5_workPlain_18 : decode cX5_workPlain 18 = .ok (.lastore, 1) := by decide +kernel
theorem dX5_workPlain_19 : decode cX5_workPlain 19 = .ok (.aload_n 0, 1) := by decide +kernel
theorem dX5_workPlain_20 : decode cX5_workPlain 20 = .ok (.getfield 70, 3) := by decide +kernel
theorem dX5_workPlain_23 : decode cX5_workPlain 23 = .ok (.iload_n 1, 1) := by decide +kernel
theorem dX5_workPlain_24 : decode cX5_workPlain 24 = .ok (.aload_n 0, 1) := by decide +kernel
theorem dX5_workPlain_25 : decode cX5_workPlain 25 = .ok (.getfield 42, 3) := by decide +kernel
theorem dX5_workPlain_28 : decode cX5_workPlain 28 = .ok (.iload_n 1, 1) := by decide +kernel
theorem dX5_workPlain_29 : decode cX5_workPlain 29 = .ok (.iaload, 1) := by decide +kernel
theorem dX5_workPlain_30 : decode cX5_workPlain 30 = .ok (.iastore, 1) := by decide +kernel
theorem dX5_workPlain_31 : decode cX5_workPlain 31 = .ok (.aload_n 0, 1) := by decide +kernel
theorem dX5_workPlain_32 : decode cX5_workPlain 32 = .ok (.getfield 73, 3) := by decide +kernel
theorem dX5_workPlain_35 : decode cX5_workPlain 35 = .ok (.iload_n 1, 1) := by decide +kernel
theorem dX5_workPlain_36 : decode cX5_workPlain 36 = .ok (.iconst 0, 1) := by decide +kernel
theorem dX5_workPlain_37 : decode cX5_workPlain 37 = .ok (.bastore, 1) := by decide +kernel
theorem dX5_workPlain_38 : decode cX5_workPlain 38 = .ok (.iconst 0, 1) := by decide +kernel
theorem dX5_workPlain_39 : decode cX5_workPlain 39 = .ok (.istore_n 2, 1) := by decide +kernel
theorem dX5_workPlain_40 : decode cX5_workPlain 40 = .ok (.iload_n 2, 1) := by decide +kernel
theorem dX5_workPlain_41 : decode cX5_workPlain 41 = .ok (.iconst 3, 1) := by decide +kernel
theorem dX5_workPlain_42 : decode cX5_workPlain 42 = .ok (.if_icmp .ge 29, 3) := by decide +kernel
theorem dX5_workPlain_45 : decode cX5_workPlain 45 = .ok (.aload_n 0, 1) := by decide +kernel
theorem dX5_workPlain_46 : decode cX5_workPlain 46 = .ok (.getfield 67, 3) := by decide +kernel
theorem dX5_workPlain_49 : decode cX5_workPlain 49 = .ok (.iconst 3, 1) := by decide +kernel
theorem dX5_workPlain_50 : decode cX5_workPlain 50 = .ok (.iload_n 1, 1) := by decide +kernel
theorem dX5_workPlain_51 : decode cX5_workPlain 51 = .ok (.imul, 1) := by decide +kernel
theorem dX5_workPlain_52 : decode cX5_workPlain 52 = .ok (.iload_n 2, 1) := by decide +kernel
theorem dX5_workPlain_53 : decode cX5_workPlain 53 = .ok (.iadd, 1) := by decide +kernel
theorem dX5_workPlain_54 : decode cX5_workPlain 54 = .ok (.aload_n 0, 1) := by decide +kernel
theorem dX5_workPlain_55 : decode cX5_workPlain 55 = .ok (.getfield 39, 3) := by decide +kernel
theorem dX5_workPlain_58 : decode cX5_workPlain 58 = .ok (.iconst 3, 1) := by decide +kernel
theorem dX5_workPlain_59 : decode cX5_workPlain 59 = .ok (.iload_n 1, 1) := by decide +kernel
theorem dX5_workPlain_60 : decode cX5_workPlain 60 = .ok (.imul, 1) := by decide +kernel
theorem dX5_workPlain_61 : decode cX5_workPlain 61 = .ok (.iload_n 2, 1) := by decide +kernel
theorem dX5_workPlain_62 : decode cX5_workPlain 62 = .ok (.iadd, 1) := by decide +kernel
theorem dX5_workPlain_63 : decode cX5_workPlain 63 = .ok (.iaload, 1) := by decide +kernel
theorem dX5_workPlain_64 : decode cX5_workPlain 64 = .ok (.iastore, 1) := by decide +kernel
theorem dX5_workPlain_65 : decode cX5_workPlain 65 = .ok (.iinc 2 1, 3) := by decide +kernel
theorem dX5_workPlain_68 : decode cX5_workPlain 68 = .ok (.goto (-28), 3) := by decide +kernel
theorem dX5_workPlain_71 : decode cX5_workPlain 71 = .ok (.iconst 0, 1) := by decide +kernel
theorem dX5_workPlain_72 : decode cX5_workPlain 72 = .ok (.istore_n 2, 1) := by decide +kernel
theorem dX5_workPlain_73 : decode cX5_workPlain 73 = .ok (.iload_n 2, 1) := by decide +kernel
theorem dX5_workPlain_74 : decode cX5_workPlain 74 = .ok (.bipush 10, 2) := by decide +kernel
theorem dX5_workPlain_76 : decode cX5_workPlain 76 = .ok (.if_icmp .ge 58, 3) := by decide +kernel
theorem dX5_workPlain_79 : decode cX5_workPlain 79 = .ok (.aload_n 0, 1) := by decide +kernel
theorem dX5_workPlain_80 : decode cX5_workPlain 80 = .ok (.getfield 73, 3) := by decide +kernel
theorem dX5_workPlain_83 : decode cX5_workPlain 83 = .ok (.iload_n 1, 1) := by decide +kernel
theorem dX5_workPlain_84 : decode cX5_workPlain 84 = .ok (.aload_n 0, 1) := by decide +kernel
theorem dX5_workPlain_85 : decode cX5_workPlain 85 = .ok (.getfield 73, 3) := by decide +kernel
theorem dX5_workPlain_88 : decode cX5_workPlain 88 = .ok (.iload_n 1, 1) := by decide +kernel
theorem dX5_workPlain_89 : decode cX5_workPlain 89 = .ok (.baload, 1) := by decide +kernel
theorem dX5_workPlain_90 : decode cX5_workPlain 90 = .ok (.ifCond .ne 32, 3) := by decide +kernel
theorem dX5_workPlain_93 : decode cX5_workPlain 93 = .ok (.aload_n 0, 1) := by decide +kernel
theorem dX5_workPlain_94 : decode cX5_workPlain 94 = .ok (.getfield 42, 3) := by decide +kernel
theorem dX5_workPlain_97 : decode cX5_workPlain 97 = .ok (.iload_n 1, 1) := by decide +kernel
theorem dX5_workPlain_98 : decode cX5_workPlain 98 = .ok (.iaload, 1) := by decide +kernel
theorem dX5_workPlain_99 : decode cX5_workPlain 99 = .ok (.iload_n 2, 1) := by decide +kernel
theorem dX5_workPlain_100 : decode cX5_workPlain 100 = .ok (.ishr, 1) := by decide +kernel
theorem dX5_workPlain_101 : decode cX5_workPlain 101 = .ok (.iconst 1, 1) := by decide +kernel
theorem dX5_workPlain_102 : decode cX5_workPlain 102 = .ok (.iand, 1) := by decide +kernel
theorem dX5_workPlain_103 : decode cX5_workPlain 103 = .ok (.iconst 1, 1) := by decide +kernel
theorem dX5_workPlain_104 : decode cX5_workPlain 104 = .ok (.if_icmp .ne 22, 3) := by decide +kernel
theorem dX5_workPlain_107 : decode cX5_workPlain 107 = .ok (.aload_n 0, 1) := by decide +kernel
theorem dX5_workPlain_108 : decode cX5_workPlain 108 = .ok (.getfield 16, 3) := by decide +kernel
theorem dX5_workPlain_111 : decode cX5_workPlain 111 = .ok (.iload_n 2, 1) := by decide +kernel
theorem dX5_workPlain_112 : decode cX5_workPlain 112 = .ok (.iaload, 1) := by decide +kernel
theorem dX5_workPlain_113 : decode cX5_workPlain 113 = .ok (.aload_n 0, 1) := by decide +kernel
theorem dX5_workPlain_114 : decode cX5_workPlain 114 = .ok (.getfield 45, 3) := by decide +kernel
theorem dX5_workPlain_117 : decode cX5_workPlain 117 = .ok (.iload_n 1, 1) := by decide +kernel
theorem dX5_workPlain_118 : decode cX5_workPlain 118 = .ok (.iaload, 1) := by decide +kernel
theorem dX5_workPlain_119 : decode cX5_workPlain 119 = .ok (.if_icmp .le 7, 3) := by decide +kernel
theorem dX5_workPlain_122 : decode cX5_workPlain 122 = .ok (.iconst 1, 1) := by decide +kernel
theorem dX5_workPlain_123 : decode cX5_workPlain 123 = .ok (.goto 4, 3) := by decide +kernel
theorem dX5_workPlain_126 : decode cX5_workPlain 126 = .ok (.iconst 0, 1) := by decide +kernel
theorem dX5_workPlain_127 : decode cX5_workPlain 127 = .ok (.bastore, 1) := by decide +kernel
theorem dX5_workPlain_128 : decode cX5_workPlain 128 = .ok (.iinc 2 1, 3) := by decide +kernel
theorem dX5_workPlain_131 : decode cX5_workPlain 131 = .ok (.goto (-58), 3) := by decide +kernel
theorem dX5_workPlain_134 : decode cX5_workPlain 134 = .ok (.return_, 1) := by decide +kernel
theorem dX5_workJoined_0 : decode cX5_workJoined 0 = .ok (.iconst 1, 1) := by decide +kernel
theorem dX5_workJoined_1 : decode cX5_workJoined 1 = .ok (.istore_n 2, 1) := by decide +kernel
theorem dX5_workJoined_2 : decode cX5_workJoined 2 = .ok (.iconst 0, 1) := by decide +kernel
theorem dX5_workJoined_3 : decode cX5_workJoined 3 = .ok (.istore_n 3, 1) := by decide +kernel
theorem dX5_workJoined_4 : decode cX5_workJoined 4 = .ok (.iload_n 3, 1) := by decide +kernel
theorem dX5_workJoined_5 : decode cX5_workJoined 5 = .ok (.iconst 4, 1) := by decide +kernel
theorem dX5_workJoined_6 : decode cX5_workJoined 6 = .ok (.if_icmp .ge 54, 3) := by decide +kernel
theorem dX5_workJoined_9 : decode cX5_workJoined 9 = .ok (.iload_n 2, 1) := by decide +kernel
theorem dX5_workJoined_10 : decode cX5_workJoined 10 = .ok (.ifCond .eq 42, 3) := by decide +kernel
theorem dX5_workJoined_13 : decode cX5_workJoined 13 = .ok (.aload_n 0, 1) := by decide +kernel
theorem dX5_workJoined_14 : decode cX5_workJoined 14 = .ok (.getfield 51, 3) := by decide +kernel
theorem dX5_workJoined_17 : decode cX5_workJoined 17 = .ok (.iconst 4, 1) := by decide +kernel
theorem dX5_workJoined_18 : decode cX5_workJoined 18 = .ok (.iload_n 1, 1) := by decide +kernel
theorem dX5_workJoined_19 : decode cX5_workJoined 19 = .ok (.imul, 1) := by decide +kernel
theorem dX5_workJoined_20 : decode cX5_workJoined 20 = .ok (.iload_n 3, 1) := by decide +kernel
theorem dX5_workJoined_21 : decode cX5_workJoined 21 = .ok (.iadd, 1) := by decide +kernel
theorem dX5_workJoined_22 : decode cX5_workJoined 22 = .ok (.iaload, 1) := by decide +kernel
theorem dX5_workJoined_23 : decode cX5_workJoined 23 = .ok (.ifCond .lt 25, 3) := by decide +kernel
theorem dX5_workJoined_26 : decode cX5_workJoined 26 = .ok (.aload_n 0, 1) := by decide +kernel
theorem dX5_workJoined_27 : decode cX5_workJoined 27 = .ok (.getfield 60, 3) := by decide +kernel
theorem dX5_workJoined_30 : decode cX5_workJoined 30 = .ok (.aload_n 0, 1) := by decide +kernel
theorem dX5_workJoined_31 : decode cX5_workJoined 31 = .ok (.aload_n 0, 1) := by decide +kernel
theorem dX5_workJoined_32 : decode cX5_workJoined 32 = .ok (.getfield 51, 3) := by decide +kernel
theorem dX5_workJoined_35 : decode cX5_workJoined 35 = .ok (.iconst 4, 1) := by decide +kernel
theorem dX5_workJoined_36 : decode cX5_workJoined 36 = .ok (.iload_n 1, 1) := by decide +kernel
theorem dX5_workJoined_37 : decode cX5_workJoined 37 = .ok (.imul, 1) := by decide +kernel
theorem dX5_workJoined_38 : decode cX5_workJoined 38 = .ok (.iload_n 3, 1) := by decide +kernel
theorem dX5_workJoined_39 : decode cX5_workJoined 39 = .ok (.iadd, 1) := by decide +kernel
theorem dX5_workJoined_40 : decode cX5_workJoined 40 = .ok (.iaload, 1) := by decide +kernel
theorem dX5_workJoined_41 : decode cX5_workJoined 41 = .ok (.invokevirtual 121, 3) := by decide +kernel
theorem dX5_workJoined_44 : decode cX5_workJoined 44 = .ok (.baload, 1) := by decide +kernel
theorem dX5_workJoined_45 : decode cX5_workJoined 45 = .ok (.ifCond .eq 7, 3) := by decide +kernel
theorem dX5_workJoined_48 : decode cX5_workJoined 48 = .ok (.iconst 1, 1) := by decide +kernel
theorem dX5_workJoined_49 : decode cX5_workJoined 49 = .ok (.goto 4, 3) := by decide +kernel
theorem dX5_workJoined_52 : decode cX5_workJoined 52 = .ok (.iconst 0, 1) := by decide +kernel
theorem dX5_workJoined_53 : decode cX5_workJoined 53 = .ok (.istore_n 2, 1) := by decide +kernel
theorem dX5_workJoined_54 : decode cX5_workJoined 54 = .ok (.iinc 3 1, 3) := by decide +kernel
theorem dX5_workJoined_57 : decode cX5_workJoined 57 = .ok (.goto (-53), 3) := by decide +kernel
theorem dX5_workJoined_60 : decode cX5_workJoined 60 = .ok (.iload_n 2, 1) := by decide +kernel
theorem dX5_workJoined_61 : decode cX5_workJoined 61 = .ok (.ifCond .ne 4, 3) := by decide +kernel
theorem dX5_workJoined_64 : decode cX5_workJoined 64 = .ok (.return_, 1) := by decide +kernel
theorem dX5_workJoined_65 : decode cX5_workJoined 65 = .ok (.aload_n 0, 1) := by decide +kernel
theorem dX5_workJoined_66 : decode cX5_workJoined 66 = .ok (.getfield 60, 3) := by decide +kernel
theorem dX5_workJoined_69 : decode cX5_workJoined 69 = .ok (.iload_n 1, 1) := by decide +kernel
theorem dX5_workJoined_70 : decode cX5_workJoined 70 = .ok (.iconst 1, 1) := by decide +kernel
theorem dX5_workJoined_71 : decode cX5_workJoined 71 = .ok (.bastore, 1) := by decide +kernel
theorem dX5_workJoined_72 : decode cX5_workJoined 72 = .ok (.aload_n 0, 1) := by decide +kernel
theorem dX5_workJoined_73 : decode cX5_workJoined 73 = .ok (.getfield 64, 3) := by decide +kernel
theorem dX5_workJoined_76 : decode cX5_workJoined 76 = .ok (.iload_n 1, 1) := by decide +kernel
theorem dX5_workJoined_77 : decode cX5_workJoined 77 = .ok (.lconst 0, 1) := by decide +kernel
theorem dX5_workJoined_78 : decode cX5_workJoined 78 = .ok (.lastore, 1) := by decide +kernel
theorem dX5_workJoined_79 : decode cX5_workJoined 79 = .ok (.aload_n 0, 1) := by decide +kernel
theorem dX5_workJoined_80 : decode cX5_workJoined 80 = .ok (.getfield 70, 3) := by decide +kernel
theorem dX5_workJoined_83 : decode cX5_workJoined 83 = .ok (.iload_n 1, 1) := by decide +kernel
theorem dX5_workJoined_84 : decode cX5_workJoined 84 = .ok (.iconst 0, 1) := by decide +kernel
theorem dX5_workJoined_85 : decode cX5_workJoined 85 = .ok (.iastore, 1) := by decide +kernel
theorem dX5_workJoined_86 : decode cX5_workJoined 86 = .ok (.aload_n 0, 1) := by decide +kernel
theorem dX5_workJoined_87 : decode cX5_workJoined 87 = .ok (.getfield 73, 3) := by decide +kernel
theorem dX5_workJoined_90 : decode cX5_workJoined 90 = .ok (.iload_n 1, 1) := by decide +kernel
theorem dX5_workJoined_91 : decode cX5_workJoined 91 = .ok (.iconst 0, 1) := by decide +kernel
theorem dX5_workJoined_92 : decode cX5_workJoined 92 = .ok (.bastore, 1) := by decide +kernel
theorem dX5_workJoined_93 : decode cX5_workJoined 93 = .ok (.iconst 0, 1) := by decide +kernel
theorem dX5_workJoined_94 : decode cX5_workJoined 94 = .ok (.istore_n 3, 1) := by decide +kernel
theorem dX5_workJoined_95 : decode cX5_workJoined 95 = .ok (.iload_n 3, 1) := by decide +kernel
theorem dX5_workJoined_96 : decode cX5_workJoined 96 = .ok (.iconst 3, 1) := by decide +kernel
theorem dX5_workJoined_97 : decode cX5_workJoined 97 = .ok (.if_icmp .ge 23, 3) := by decide +kernel
theorem dX5_workJoined_100 : decode cX5_workJoined 100 = .ok (.aload_n 0, 1) := by decide +kernel
theorem dX5_workJoined_101 : decode cX5_workJoined 101 = .ok (.getfield 67, 3) := by decide +kernel
theorem dX5_workJoined_104 : decode cX5_workJoined 104 = .ok (.iconst 3, 1) := by decide +kernel
theorem dX5_workJoined_105 : decode cX5_workJoined 105 = .ok (.iload_n 1, 1) := by decide +kernel
theorem dX5_workJoined_106 : decode cX5_workJoined 106 = .ok (.imul, 1) := by decide +kernel
theorem dX5_workJoined_107 : decode cX5_workJoined 107 = .ok (.iload_n 3, 1) := by decide +kernel
theorem dX5_workJoined_108 : decode cX5_workJoined 108 = .ok (.iadd, 1) := by decide +kernel
theorem dX5_workJoined_109 : decode cX5_workJoined 109 = .ok (.iload_n 3, 1) := by decide +kernel
theorem dX5_workJoined_110 : decode cX5_workJoined 110 = .ok (.invokestatic 124, 3) := by decide +kernel
theorem dX5_workJoined_113 : decode cX5_workJoined 113 = .ok (.iastore, 1) := by decide +kernel
theorem dX5_workJoined_114 : decode cX5_workJoined 114 = .ok (.iinc 3 1, 3) := by decide +kernel
theorem dX5_workJoined_117 : decode cX5_workJoined 117 = .ok (.goto (-22), 3) := by decide +kernel
theorem dX5_workJoined_120 : decode cX5_workJoined 120 = .ok (.iconst 0, 1) := by decide +kernel
theorem dX5_workJoined_121 : decode cX5_workJoined 121 = .ok (.istore_n 3, 1) := by decide +kernel
theorem dX5_workJoined_122 : decode cX5_workJoined 122 = .ok (.iload_n 3, 1) := by decide +kernel
theorem dX5_workJoined_123 : decode cX5_workJoined 123 = .ok (.iconst 4, 1) := by decide +kernel
theorem dX5_workJoined_124 : decode cX5_workJoined 124 = .ok (.if_icmp .ge 141, 3) := by decide +kernel
theorem dX5_workJoined_127 : decode cX5_workJoined 127 = .ok (.aload_n 0, 1) := by decide +kernel
theorem dX5_workJoined_128 : decode cX5_workJoined 128 = .ok (.getfield 51, 3) := by decide +kernel
theorem dX5_workJoined_131 : decode cX5_workJoined 131 = .ok (.iconst 4, 1) := by decide +kernel
theorem dX5_workJoined_132 : decode cX5_workJoined 132 = .ok (.iload_n 1, 1) := by decide +kernel
theorem dX5_workJoined_133 : decode cX5_workJoined 133 = .ok (.imul, 1) := by decide +kernel
theorem dX5_workJoined_134 : decode cX5_workJoined 134 = .ok (.iload_n 3, 1) := by decide +kernel
theorem dX5_workJoined_135 : decode cX5_workJoined 135 = .ok (.iadd, 1) := by decide +kernel
theorem dX5_workJoined_136 : decode cX5_workJoined 136 = .ok (.iaload, 1) := by decide +kernel
theorem dX5_workJoined_137 : decode cX5_workJoined 137 = .ok (.ifCond .lt 128, 3) := by decide +kernel
theorem dX5_workJoined_140 : decode cX5_workJoined 140 = .ok (.aload_n 0, 1) := by decide +kernel
theorem dX5_workJoined_141 : decode cX5_workJoined 141 = .ok (.aload_n 0, 1) := by decide +kernel
theorem dX5_workJoined_142 : decode cX5_workJoined 142 = .ok (.getfield 51, 3) := by decide +kernel
theorem dX5_workJoined_145 : decode cX5_workJoined 145 = .ok (.iconst 4, 1) := by decide +kernel
theorem dX5_workJoined_146 : decode cX5_workJoined 146 = .ok (.iload_n 1, 1) := by decide +kernel
theorem dX5_workJoined_147 : decode cX5_workJoined 147 = .ok (.imul, 1) := by decide +kernel
theorem dX5_workJoined_148 : decode cX5_workJoined 148 = .ok (.iload_n 3, 1) := by decide +kernel
theorem dX5_workJoined_149 : decode cX5_workJoined 149 = .ok (.iadd, 1) := by decide +kernel
theorem dX5_workJoined_150 : decode cX5_workJoined 150 = .ok (.iaload, 1) := by decide +kernel
theorem dX5_workJoined_151 : decode cX5_workJoined 151 = .ok (.invokevirtual 121, 3) := by decide +kernel
theorem dX5_workJoined_154 : decode cX5_workJoined 154 = .ok (.istore 4, 2) := by decide +kernel
theorem dX5_workJoined_156 : decode cX5_workJoined 156 = .ok (.aload_n 0, 1) := by decide +kernel
theorem dX5_workJoined_157 : decode cX5_workJoined 157 = .ok (.getfield 64, 3) := by decide +kernel
theorem dX5_workJoined_160 : decode cX5_workJoined 160 = .ok (.iload_n 1, 1) := by decide +kernel
theorem dX5_workJoined_161 : decode cX5_workJoined 161 = .ok (.dup2, 1) := by decide +kernel
theorem dX5_workJoined_162 : decode cX5_workJoined 162 = .ok (.laload, 1) := by decide +kernel
theorem dX5_workJoined_163 : decode cX5_workJoined 163 = .ok (.aload_n 0, 1) := by decide +kernel
theorem dX5_workJoined_164 : decode cX5_workJoined 164 = .ok (.getfield 64, 3) := by decide +kernel
theorem dX5_workJoined_167 : decode cX5_workJoined 167 = .ok (.iload 4, 2) := by decide +kernel
theorem dX5_workJoined_169 : decode cX5_workJoined 169 = .ok (.laload, 1) := by decide +kernel
theorem dX5_workJoined_170 : decode cX5_workJoined 170 = .ok (.lor, 1) := by decide +kernel
theorem dX5_workJoined_171 : decode cX5_workJoined 171 = .ok (.lastore, 1) := by decide +kernel
theorem dX5_workJoined_172 : decode cX5_workJoined 172 = .ok (.aload_n 0, 1) := by decide +kernel
theorem dX5_workJoined_173 : decode cX5_workJoined 173 = .ok (.getfield 70, 3) := by decide +kernel
theorem dX5_workJoined_176 : decode cX5_workJoined 176 = .ok (.iload_n 1, 1) := by decide +kernel
theorem dX5_workJoined_177 : decode cX5_workJoined 177 = .ok (.dup2, 1) := by decide +kernel
theorem dX5_workJoined_178 : decode cX5_workJoined 178 = .ok (.iaload, 1) := by decide +kernel
theorem dX5_workJoined_179 : decode cX5_workJoined 179 = .ok (.aload_n 0, 1) := by decide +kernel
theorem dX5_workJoined_180 : decode cX5_workJoined 180 = .ok (.getfield 70, 3) := by decide +kernel
theorem dX5_workJoined_183 : decode cX5_workJoined 183 = .ok (.iload 4, 2) := by decide +kernel
theorem dX5_workJoined_185 : decode cX5_workJoined 185 = .ok (.iaload, 1) := by decide +kernel
theorem dX5_workJoined_186 : decode cX5_workJoined 186 = .ok (.ior, 1) := by decide +kernel
theorem dX5_workJoined_187 : decode cX5_workJoined 187 = .ok (.iastore, 1) := by decide +kernel
theorem dX5_workJoined_188 : decode cX5_workJoined 188 = .ok (.aload_n 0, 1) := by decide +kernel
theorem dX5_workJoined_189 : decode cX5_workJoined 189 = .ok (.getfield 73, 3) := by decide +kernel
theorem dX5_workJoined_192 : decode cX5_workJoined 192 = .ok (.iload_n 1, 1) := by decide +kernel
theorem dX5_workJoined_193 : decode cX5_workJoined 193 = .ok (.aload_n 0, 1) := by decide +kernel
theorem dX5_workJoined_194 : decode cX5_workJoined 194 = .ok (.getfield 73, 3) := by decide +kernel
theorem dX5_workJoined_197 : decode cX5_workJoined 197 = .ok (.iload_n 1, 1) := by decide +kernel
theorem dX5_workJoined_198 : decode cX5_workJoined 198 = .ok (.baload, 1) := by decide +kernel
theorem dX5_workJoined_199 : decode cX5_workJoined 199 = .ok (.ifCond .ne 13, 3) := by decide +kernel
theorem dX5_workJoined_202 : decode cX5_workJoined 202 = .ok (.aload_n 0, 1) := by decide +kernel
theorem dX5_workJoined_203 : decode cX5_workJoined 203 = .ok (.getfield 73, 3) := by decide +kernel
theorem dX5_workJoined_206 : decode cX5_workJoined 206 = .ok (.iload 4, 2) := by decide +kernel
theorem dX5_workJoined_208 : decode cX5_workJoined 208 = .ok (.baload, 1) := by decide +kernel
theorem dX5_workJoined_209 : decode cX5_workJoined 209 = .ok (.ifCond .eq 7, 3) := by decide +kernel
theorem dX5_workJoined_212 : decode cX5_workJoined 212 = .ok (.iconst 1, 1) := by decide +kernel
theorem dX5_workJoined_213 : decode cX5_workJoined 213 = .ok (.goto 4, 3) := by decide +kernel
theorem dX5_workJoined_216 : decode cX5_workJoined 216 = .ok (.iconst 0, 1) := by decide +kernel
theorem dX5_workJoined_217 : decode cX5_workJoined 217 = .ok (.bastore, 1) := by decide +kernel
theorem dX5_workJoined_218 : decode cX5_workJoined 218 = .ok (.iconst 0, 1) := by decide +kernel
theorem dX5_workJoined_219 : decode cX5_workJoined 219 = .ok (.istore 5, 2) := by decide +kernel
theorem dX5_workJoined_221 : decode cX5_workJoined 221 = .ok (.iload 5, 2) := by decide +kernel
theorem dX5_workJoined_223 : decode cX5_workJoined 223 = .ok (.iconst 3, 1) := by decide +kernel
theorem dX5_workJoined_224 : decode cX5_workJoined 224 = .ok (.if_icmp .ge 35, 3) := by decide +kernel
theorem dX5_workJoined_227 : decode cX5_workJoined 227 = .ok (.aload_n 0, 1) := by decide +kernel
theorem dX5_workJoined_228 : decode cX5_workJoined 228 = .ok (.getfield 67, 3) := by decide +kernel
theorem dX5_workJoined_231 : decode cX5_workJoined 231 = .ok (.iconst 3, 1) := by decide +kernel
theorem dX5_workJoined_232 : decode cX5_workJoined 232 = .ok (.iload_n 1, 1) := by decide +kernel
theorem dX5_workJoined_233 : decode cX5_workJoined 233 = .ok (.imul, 1) := by decide +kernel
theorem dX5_workJoined_234 : decode cX5_workJoined 234 = .ok (.iload 5, 2) := by decide +kernel
theorem dX5_workJoined_236 : decode cX5_workJoined 236 = .ok (.iadd, 1) := by decide +kernel
theorem dX5_workJoined_237 : decode cX5_workJoined 237 = .ok (.dup2, 1) := by decide +kernel
theorem dX5_workJoined_238 : decode cX5_workJoined 238 = .ok (.iaload, 1) := by decide +kernel
theorem dX5_workJoined_239 : decode cX5_workJoined 239 = .ok (.aload_n 0, 1) := by decide +kernel
theorem dX5_workJoined_240 : decode cX5_workJoined 240 = .ok (.getfield 67, 3) := by decide +kernel
theorem dX5_workJoined_243 : decode cX5_workJoined 243 = .ok (.iconst 3, 1) := by decide +kernel
theorem dX5_workJoined_244 : decode cX5_workJoined 244 = .ok (.iload 4, 2) := by decide +kernel
theorem dX5_workJoined_246 : decode cX5_workJoined 246 = .ok (.imul, 1) := by decide +kernel
theorem dX5_workJoined_247 : decode cX5_workJoined 247 = .ok (.iload 5, 2) := by decide +kernel
theorem dX5_workJoined_249 : decode cX5_workJoined 249 = .ok (.iadd, 1) := by decide +kernel
theorem dX5_workJoined_250 : decode cX5_workJoined 250 = .ok (.iaload, 1) := by decide +kernel
theorem dX5_workJoined_251 : decode cX5_workJoined 251 = .ok (.iand, 1) := by decide +kernel
theorem dX5_workJoined_252 : decode cX5_workJoined 252 = .ok (.iastore, 1) := by decide +kernel
theorem dX5_workJoined_253 : decode cX5_workJoined 253 = .ok (.iinc 5 1, 3) := by decide +kernel
theorem dX5_workJoined_256 : decode cX5_workJoined 256 = .ok (.goto (-35), 3) := by decide +kernel
theorem dX5_workJoined_259 : decode cX5_workJoined 259 = .ok (.iinc 3 1, 3) := by decide +kernel
theorem dX5_workJoined_262 : decode cX5_workJoined 262 = .ok (.goto (-140), 3) := by decide +kernel
theorem dX5_workJoined_265 : decode cX5_workJoined 265 = .ok (.return_, 1) := by decide +kernel
theorem dX5_work_0 : decode cX5_work 0 = .ok (.iconst 0, 1) := by decide +kernel
theorem dX5_work_1 : decode cX5_work 1 = .ok (.istore_n 1, 1) := by decide +kernel
theorem dX5_work_2 : decode cX5_work 2 = .ok (.iload_n 1, 1) := by decide +kernel
theorem dX5_work_3 : decode cX5_work 3 = .ok (.aload_n 0, 1) := by decide +kernel
theorem dX5_work_4 : decode cX5_work 4 = .ok (.getfield 79, 3) := by decide +kernel
theorem dX5_work_7 : decode cX5_work 7 = .ok (.if_icmp .ge 30, 3) := by decide +kernel
theorem dX5_work_10 : decode cX5_work 10 = .ok (.aload_n 0, 1) := by decide +kernel
theorem dX5_work_11 : decode cX5_work 11 = .ok (.getfield 60, 3) := by decide +kernel
theorem dX5_work_14 : decode cX5_work 14 = .ok (.iload_n 1, 1) := by decide +kernel
theorem dX5_work_15 : decode cX5_work 15 = .ok (.iconst 0, 1) := by decide +kernel
theorem dX5_work_16 : decode cX5_work 16 = .ok (.bastore, 1) := by decide +kernel
theorem dX5_work_17 : decode cX5_work 17 = .ok (.aload_n 0, 1) := by decide +kernel
theorem dX5_work_18 : decode cX5_work 18 = .ok (.getfield 26, 3) := by decide +kernel
theorem dX5_work_21 : decode cX5_work 21 = .ok (.iload_n 1, 1) := by decide +kernel
theorem dX5_work_22 : decode cX5_work 22 = .ok (.iaload, 1) := by decide +kernel
theorem dX5_work_23 : decode cX5_work 23 = .ok (.ifCond .ne 8, 3) := by decide +kernel
theorem dX5_work_26 : decode cX5_work 26 = .ok (.aload_n 0, 1) := by decide +kernel
theorem dX5_work_27 : decode cX5_work 27 = .ok (.iload_n 1, 1) := by decide +kernel
theorem dX5_work_28 : decode cX5_work 28 = .ok (.invokevirtual 127, 3) := by decide +kernel
theorem dX5_work_31 : decode cX5_work 31 = .ok (.iinc 1 1, 3) := by decide +kernel
theorem dX5_work_34 : decode cX5_work 34 = .ok (.goto (-32), 3) := by decide +kernel
theorem dX5_work_37 : decode cX5_work 37 = .ok (.iconst 0, 1) := by decide +kernel
theorem dX5_work_38 : decode cX5_work 38 = .ok (.istore_n 1, 1) := by decide +kernel
theorem dX5_work_39 : decode cX5_work 39 = .ok (.iload_n 1, 1) := by decide +kernel
theorem dX5_work_40 : decode cX5_work 40 = .ok (.aload_n 0, 1) := by decide +kernel
theorem dX5_work_41 : decode cX5_work 41 = .ok (.getfield 79, 3) := by decide +kernel
theorem dX5_work_44 : decode cX5_work 44 = .ok (.if_icmp .ge 39, 3) := by decide +kernel
theorem dX5_work_47 : decode cX5_work 47 = .ok (.iconst 0, 1) := by decide +kernel
theorem dX5_work_48 : decode cX5_work 48 = .ok (.istore_n 2, 1) := by decide +kernel
theorem dX5_work_49 : decode cX5_work 49 = .ok (.iload_n 2, 1) := by decide +kernel
theorem dX5_work_50 : decode cX5_work 50 = .ok (.aload_n 0, 1) := by decide +kernel
theorem dX5_work_51 : decode cX5_work 51 = .ok (.getfield 79, 3) := by decide +kernel
theorem dX5_work_54 : decode cX5_work 54 = .ok (.if_icmp .ge 23, 3) := by decide +kernel
theorem dX5_work_57 : decode cX5_work 57 = .ok (.aload_n 0, 1) := by decide +kernel
theorem dX5_work_58 : decode cX5_work 58 = .ok (.getfield 60, 3) := by decide +kernel
theorem dX5_work_61 : decode cX5_work 61 = .ok (.iload_n 2, 1) := by decide +kernel
theorem dX5_work_62 : decode cX5_work 62 = .ok (.baload, 1) := by decide +kernel
theorem dX5_work_63 : decode cX5_work 63 = .ok (.ifCond .ne 8, 3) := by decide +kernel
theorem dX5_work_66 : decode cX5_work 66 = .ok (.aload_n 0, 1) := by decide +kernel
theorem dX5_work_67 : decode cX5_work 67 = .ok (.iload_n 2, 1) := by decide +kernel
theorem dX5_work_68 : decode cX5_work 68 = .ok (.invokevirtual 131, 3) := by decide +kernel
theorem dX5_work_71 : decode cX5_work 71 = .ok (.iinc 2 1, 3) := by decide +kernel
theorem dX5_work_74 : decode cX5_work 74 = .ok (.goto (-25), 3) := by decide +kernel
theorem dX5_work_77 : decode cX5_work 77 = .ok (.iinc 1 1, 3) := by decide +kernel
theorem dX5_work_80 : decode cX5_work 80 = .ok (.goto (-41), 3) := by decide +kernel
theorem dX5_work_83 : decode cX5_work 83 = .ok (.return_, 1) := by decide +kernel
theorem dX5_hasPart_0 : decode cX5_hasPart 0 = .ok (.iconst 0, 1) := by decide +kernel
theorem dX5_hasPart_1 : decode cX5_hasPart 1 = .ok (.istore_n 3, 1) := by decide +kernel
theorem dX5_hasPart_2 : decode cX5_hasPart 2 = .ok (.iload_n 3, 1) := by decide +kernel
theorem dX5_hasPart_3 : decode cX5_hasPart 3 = .ok (.aload_n 0, 1) := by decide +kernel
theorem dX5_hasPart_4 : decode cX5_hasPart 4 = .ok (.getfield 79, 3) := by decide +kernel
theorem dX5_hasPart_7 : decode cX5_hasPart 7 = .ok (.if_icmp .ge 25, 3) := by decide +kernel
theorem dX5_hasPart_10 : decode cX5_hasPart 10 = .ok (.aload_n 0, 1) := by decide +kernel
theorem dX5_hasPart_11 : decode cX5_hasPart 11 = .ok (.getfield 60, 3) := by decide +kernel
theorem dX5_hasPart_14 : decode cX5_hasPart 14 = .ok (.iload_n 3, 1) := by decide +kernel
theorem dX5_hasPart_15 : decode cX5_hasPart 15 = .ok (.iload_n 3, 1) := by decide +kernel
theorem dX5_hasPart_16 : decode cX5_hasPart 16 = .ok (.iload_n 1, 1) := by decide +kernel
theorem dX5_hasPart_17 : decode cX5_hasPart 17 = .ok (.if_icmp .ne 7, 3) := by decide +kernel
theorem dX5_hasPart_20 : decode cX5_hasPart 20 = .ok (.iconst 1, 1) := by decide +kernel
theorem dX5_hasPart_21 : decode cX5_hasPart 21 = .ok (.goto 4, 3) := by decide +kernel
theorem dX5_hasPart_24 : decode cX5_hasPart 24 = .ok (.iconst 0, 1) := by decide +kernel
theorem dX5_hasPart_25 : decode cX5_hasPart 25 = .ok (.bastore, 1) := by decide +kernel
theorem dX5_hasPart_26 : decode cX5_hasPart 26 = .ok (.iinc 3 1, 3) := by decide +kernel
theorem dX5_hasPart_29 : decode cX5_hasPart 29 = .ok (.goto (-27), 3) := by decide +kernel
theorem dX5_hasPart_32 : decode cX5_hasPart 32 = .ok (.iconst 0, 1) := by decide +kernel
theorem dX5_hasPart_33 : decode cX5_hasPart 33 = .ok (.istore_n 3, 1) := by decide +kernel
theorem dX5_hasPart_34 : decode cX5_hasPart 34 = .ok (.iload_n 3, 1) := by decide +kernel
theorem dX5_hasPart_35 : decode cX5_hasPart 35 = .ok (.aload_n 0, 1) := by decide +kernel
theorem dX5_hasPart_36 : decode cX5_hasPart 36 = .ok (.getfield 79, 3) := by decide +kernel
theorem dX5_hasPart_39 : decode cX5_hasPart 39 = .ok (.if_icmp .ge 100, 3) := by decide +kernel
theorem dX5_hasPart_42 : decode cX5_hasPart 42 = .ok (.iconst 0, 1) := by decide +kernel
theorem dX5_hasPart_43 : decode cX5_hasPart 43 = .ok (.istore 4, 2) := by decide +kernel
theorem dX5_hasPart_45 : decode cX5_hasPart 45 = .ok (.iload 4, 2) := by decide +kernel
theorem dX5_hasPart_47 : decode cX5_hasPart 47 = .ok (.aload_n 0, 1) := by decide +kernel
theorem dX5_hasPart_48 : decode cX5_hasPart 48 = .ok (.getfield 79, 3) := by decide +kernel
theorem dX5_hasPart_51 : decode cX5_hasPart 51 = .ok (.if_icmp .ge 82, 3) := by decide +kernel
theorem dX5_hasPart_54 : decode cX5_hasPart 54 = .ok (.iconst 0, 1) := by decide +kernel
theorem dX5_hasPart_55 : decode cX5_hasPart 55 = .ok (.istore 5, 2) := by decide +kernel
theorem dX5_hasPart_57 : decode cX5_hasPart 57 = .ok (.iload 5, 2) := by decide +kernel
theorem dX5_hasPart_59 : decode cX5_hasPart 59 = .ok (.iconst 4, 1) := by decide +kernel
theorem dX5_hasPart_60 : decode cX5_hasPart 60 = .ok (.if_icmp .ge 67, 3) := by decide +kernel
theorem dX5_hasPart_63 : decode cX5_hasPart 63 = .ok (.aload_n 0, 1) := by decide +kernel
theorem dX5_hasPart_64 : decode cX5_hasPart 64 = .ok (.getfield 60, 3) := by decide +kernel
theorem dX5_hasPart_67 : decode cX5_hasPart 67 = .ok (.iload 4, 2) := by decide +kernel
theorem dX5_hasPart_69 : decode cX5_hasPart 69 = .ok (.baload, 1) := by decide +kernel
theorem dX5_hasPart_70 : decode cX5_hasPart 70 = .ok (.ifCond .eq 57, 3) := by decide +kernel
theorem dX5_hasPart_73 : decode cX5_hasPart 73 = .ok (.aload_n 0, 1) := by decide +kernel
theorem dX5_hasPart_74 : decode cX5_hasPart 74 = .ok (.getfield 26, 3) := by decide +kernel
theorem dX5_hasPart_77 : decode cX5_hasPart 77 = .ok (.iload 4, 2) := by decide +kernel
theorem dX5_hasPart_79 : decode cX5_hasPart 79 = .ok (.iaload, 1) := by decide +kernel
theorem dX5_hasPart_80 : decode cX5_hasPart 80 = .ok (.iconst 1, 1) := by decide +kernel
theorem dX5_hasPart_81 : decode cX5_hasPart 81 = .ok (.if_icmp .ne 46, 3) := by decide +kernel
theorem dX5_hasPart_84 : decode cX5_hasPart 84 = .ok (.aload_n 0, 1) := by decide +kernel
theorem dX5_hasPart_85 : decode cX5_hasPart 85 = .ok (.getfield 51, 3) := by decide +kernel
theorem dX5_hasPart_88 : decode cX5_hasPart 88 = .ok (.iconst 4, 1) := by decide +kernel
theorem dX5_hasPart_89 : decode cX5_hasPart 89 = .ok (.iload 4, 2) := by decide +kernel
theorem dX5_hasPart_91 : decode cX5_hasPart 91 = .ok (.imul, 1) := by decide +kernel
theorem dX5_hasPart_92 : decode cX5_hasPart 92 = .ok (.iload 5, 2) := by decide +kernel
theorem dX5_hasPart_94 : decode cX5_hasPart 94 = .ok (.iadd, 1) := by decide +kernel
theorem dX5_hasPart_95 : decode cX5_hasPart 95 = .ok (.iaload, 1) := by decide +kernel
theorem dX5_hasPart_96 : decode cX5_hasPart 96 = .ok (.ifCond .lt 25, 3) := by decide +kernel
theorem dX5_hasPart_99 : decode cX5_hasPart 99 = .ok (.aload_n 0, 1) := by decide +kernel
theorem dX5_hasPart_100 : decode cX5_hasPart 100 = .ok (.getfield 60, 3) := by decide +kernel
theorem dX5_hasPart_103 : decode cX5_hasPart 103 = .ok (.aload_n 0, 1) := by decide +kernel
theorem dX5_hasPart_104 : decode cX5_hasPart 104 = .ok (.aload_n 0, 1) := by decide +kernel
theorem dX5_hasPart_105 : decode cX5_hasPart 105 = .ok (.getfield 51, 3) := by decide +kernel
theorem dX5_hasPart_108 : decode cX5_hasPart 108 = .ok (.iconst 4, 1) := by decide +kernel
theorem dX5_hasPart_109 : decode cX5_hasPart 109 = .ok (.iload 4, 2) := by decide +kernel
theorem dX5_hasPart_111 : decode cX5_hasPart 111 = .ok (.imul, 1) := by decide +kernel
theorem dX5_hasPart_112 : decode cX5_hasPart 112 = .ok (.iload 5, 2) := by decide +kernel
theorem dX5_hasPart_114 : decode cX5_hasPart 114 = .ok (.iadd, 1) := by decide +kernel
theorem dX5_hasPart_115 : decode cX5_hasPart 115 = .ok (.iaload, 1) := by decide +kernel
theorem dX5_hasPart_116 : decode cX5_hasPart 116 = .ok (.invokevirtual 121, 3) := by decide +kernel
theorem dX5_hasPart_119 : decode cX5_hasPart 119 = .ok (.iconst 1, 1) := by decide +kernel
theorem dX5_hasPart_120 : decode cX5_hasPart 120 = .ok (.bastore, 1) := by decide +kernel
theorem dX5_hasPart_121 : decode cX5_hasPart 121 = .ok (.iinc 5 1, 3) := by decide +kernel
theorem dX5_hasPart_124 : decode cX5_hasPart 124 = .ok (.goto (-67), 3) := by decide +kernel
theorem dX5_hasPart_127 : decode cX5_hasPart 127 = .ok (.iinc 4 1, 3) := by decide +kernel
theorem dX5_hasPart_130 : decode cX5_hasPart 130 = .ok (.goto (-85), 3) := by decide +kernel
theorem dX5_hasPart_133 : decode cX5_hasPart 133 = .ok (.iinc 3 1, 3) := by decide +kernel
theorem dX5_hasPart_136 : decode cX5_hasPart 136 = .ok (.goto (-102), 3) := by decide +kernel
theorem dX5_hasPart_139 : decode cX5_hasPart 139 = .ok (.aload_n 0, 1) := by decide +kernel
theorem dX5_hasPart_140 : decode cX5_hasPart 140 = .ok (.getfield 60, 3) := by decide +kernel
theorem dX5_hasPart_143 : decode cX5_hasPart 143 = .ok (.iload_n 2, 1) := by decide +kernel
theorem dX5_hasPart_144 : decode cX5_hasPart 144 = .ok (.baload, 1) := by decide +kernel
theorem dX5_hasPart_145 : decode cX5_hasPart 145 = .ok (.ireturn, 1) := by decide +kernel
theorem dX5_move_0 : decode cX5_move 0 = .ok (.aload_n 0, 1) := by decide +kernel
theorem dX5_move_1 : decode cX5_move 1 = .ok (.iload_n 1, 1) := by decide +kernel
theorem dX5_move_2 : decode cX5_move 2 = .ok (.invokevirtual 111, 3) := by decide +kernel
theorem dX5_move_5 : decode cX5_move 5 = .ok (.ifCond .eq 11, 3) := by decide +kernel
theorem dX5_move_8 : decode cX5_move 8 = .ok (.aload_n 0, 1) := by decide +kernel
theorem dX5_move_9 : decode cX5_move 9 = .ok (.iload_n 2, 1) := by decide +kernel
theorem dX5_move_10 : decode cX5_move 10 = .ok (.invokevirtual 111, 3) := by decide +kernel
theorem dX5_move_13 : decode cX5_move 13 = .ok (.ifCond .ne 7, 3) := by decide +kernel
theorem dX5_move_16 : decode cX5_move 16 = .ok (.sipush (-1001), 3) := by decide +kernel
theorem dX5_move_19 : decode cX5_move 19 = .ok (.ireturn, 1) := by decide +kernel
theorem dX5_move_20 : decode cX5_move 20 = .ok (.aload_n 0, 1) := by decide +kernel
theorem dX5_move_21 : decode cX5_move 21 = .ok (.iload_n 2, 1) := by decide +kernel
theorem dX5_move_22 : decode cX5_move 22 = .ok (.invokevirtual 121, 3) := by decide +kernel
theorem dX5_move_25 : decode cX5_move 25 = .ok (.istore_n 3, 1) := by decide +kernel
theorem dX5_move_26 : decode cX5_move 26 = .ok (.aload_n 0, 1) := by decide +kernel
theorem dX5_move_27 : decode cX5_move 27 = .ok (.getfield 29, 3) := by decide +kernel
theorem dX5_move_30 : decode cX5_move 30 = .ok (.iload_n 1, 1) := by decide +kernel
theorem dX5_move_31 : decode cX5_move 31 = .ok (.iaload, 1) := by decide +kernel
theorem dX5_move_32 : decode cX5_move 32 = .ok (.ifCond .ge 17, 3) := by decide +kernel
theorem dX5_move_35 : decode cX5_move 35 = .ok (.iload_n 3, 1) := by decide +kernel
theorem dX5_move_36 : decode cX5_move 36 = .ok (.iload_n 1, 1) := by decide +kernel
theorem dX5_move_37 : decode cX5_move 37 = .ok (.if_icmp .eq 12, 3) := by decide +kernel
theorem dX5_move_40 : decode cX5_move 40 = .ok (.aload_n 0, 1) := by decide +kernel
theorem dX5_move_41 : decode cX5_move 41 = .ok (.iload_n 3, 1) := by decide +kernel
theorem dX5_move_42 : decode cX5_move 42 = .ok (.iload_n 1, 1) := by decide +kernel
theorem dX5_move_43 : decode cX5_move 43 = .ok (.invokevirtual 134, 3) := by decide +kernel
theorem dX5_move_46 : decode cX5_move 46 = .ok (.ifCond .eq 7, 3) := by decide +kernel
theorem dX5_move_49 : decode cX5_move 49 = .ok (.sipush (-1003), 3) := by decide +kernel
theorem dX5_move_52 : decode cX5_move 52 = .ok (.ireturn, 1) := by decide +kernel
theorem dX5_move_53 : decode cX5_move 53 = .ok (.aload_n 0, 1) := by decide +kernel
theorem dX5_move_54 : decode cX5_move 54 = .ok (.getfield 29, 3) := by decide +kernel
theorem dX5_move_57 : decode cX5_move 57 = .ok (.iload_n 1, 1) := by decide +kernel
theorem dX5_move_58 : decode cX5_move 58 = .ok (.iload_n 2, 1) := by decide +kernel
theorem dX5_move_59 : decode cX5_move 59 = .ok (.iastore, 1) := by decide +kernel
theorem dX5_move_60 : decode cX5_move 60 = .ok (.iload_n 3, 1) := by decide +kernel
theorem dX5_move_61 : decode cX5_move 61 = .ok (.ireturn, 1) := by decide +kernel
theorem dX5_isWithin_0 : decode cX5_isWithin 0 = .ok (.iconst 1, 1) := by decide +kernel
theorem dX5_isWithin_1 : decode cX5_isWithin 1 = .ok (.istore_n 3, 1) := by decide +kernel
theorem dX5_isWithin_2 : decode cX5_isWithin 2 = .ok (.iconst 0, 1) := by decide +kernel
theorem dX5_isWithin_3 : decode cX5_isWithin 3 = .ok (.istore 4, 2) := by decide +kernel
theorem dX5_isWithin_5 : decode cX5_isWithin 5 = .ok (.iload 4, 2) := by decide +kernel
theorem dX5_isWithin_7 : decode cX5_isWithin 7 = .ok (.iconst 3, 1) := by decide +kernel
theorem dX5_isWithin_8 : decode cX5_isWithin 8 = .ok (.if_icmp .ge 47, 3) := by decide +kernel
theorem dX5_isWithin_11 : decode cX5_isWithin 11 = .ok (.iload_n 3, 1) := by decide +kernel
theorem dX5_isWithin_12 : decode cX5_isWithin 12 = .ok (.ifCond .eq 35, 3) := by decide +kernel
theorem dX5_isWithin_15 : decode cX5_isWithin 15 = .ok (.aload_n 0, 1) := by decide +kernel
theorem dX5_isWithin_16 : decode cX5_isWithin 16 = .ok (.getfield 39, 3) := by decide +kernel
theorem dX5_isWithin_19 : decode cX5_isWithin 19 = .ok (.iconst 3, 1) := by decide +kernel
theorem dX5_isWithin_20 : decode cX5_isWithin 20 = .ok (.iload_n 1, 1) := by decide +kernel
theorem dX5_isWithin_21 : decode cX5_isWithin 21 = .ok (.imul, 1) := by decide +kernel
theorem dX5_isWithin_22 : decode cX5_isWithin 22 = .ok (.iload 4, 2) := by decide +kernel
theorem dX5_isWithin_24 : decode cX5_isWithin 24 = .ok (.iadd, 1) := by decide +kernel
theorem dX5_isWithin_25 : decode cX5_isWithin 25 = .ok (.iaload, 1) := by decide +kernel
theorem dX5_isWithin_26 : decode cX5_isWithin 26 = .ok (.aload_n 0, 1) := by decide +kernel
theorem dX5_isWithin_27 : decode cX5_isWithin 27 = .ok (.getfield 39, 3) := by decide +kernel
theorem dX5_isWithin_30 : decode cX5_isWithin 30 = .ok (.iconst 3, 1) := by decide +kernel
theorem dX5_isWithin_31 : decode cX5_isWithin 31 = .ok (.iload_n 2, 1) := by decide +kernel
theorem dX5_isWithin_32 : decode cX5_isWithin 32 = .ok (.imul, 1) := by decide +kernel
theorem dX5_isWithin_33 : decode cX5_isWithin 33 = .ok (.iload 4, 2) := by decide +kernel
theorem dX5_isWithin_35 : decode cX5_isWithin 35 = .ok (.iadd, 1) := by decide +kernel
theorem dX5_isWithin_36 : decode cX5_isWithin 36 = .ok (.iaload, 1) := by decide +kernel
theorem dX5_isWithin_37 : decode cX5_isWithin 37 = .ok (.iconst (-1), 1) := by decide +kernel
theorem dX5_isWithin_38 : decode cX5_isWithin 38 = .ok (.ixor, 1) := by decide +kernel
theorem dX5_isWithin_39 : decode cX5_isWithin 39 = .ok (.iand, 1) := by decide +kernel
theorem dX5_isWithin_40 : decode cX5_isWithin 40 = .ok (.ifCond .ne 7, 3) := by decide +kernel
theorem dX5_isWithin_43 : decode cX5_isWithin 43 = .ok (.iconst 1, 1) := by decide +kernel
theorem dX5_isWithin_44 : decode cX5_isWithin 44 = .ok (.goto 4, 3) := by decide +kernel
theorem dX5_isWithin_47 : decode cX5_isWithin 47 = .ok (.iconst 0, 1) := by decide +kernel
theorem dX5_isWithin_48 : decode cX5_isWithin 48 = .ok (.istore_n 3, 1) := by decide +kernel
theorem dX5_isWithin_49 : decode cX5_isWithin 49 = .ok (.iinc 4 1, 3) := by decide +kernel
theorem dX5_isWithin_52 : decode cX5_isWithin 52 = .ok (.goto (-47), 3) := by decide +kernel
theorem dX5_isWithin_55 : decode cX5_isWithin 55 = .ok (.iload_n 3, 1) := by decide +kernel
theorem dX5_isWithin_56 : decode cX5_isWithin 56 = .ok (.ireturn, 1) := by decide +kernel
theorem dX5_melt_0 : decode cX5_melt 0 = .ok (.aload_n 0, 1) := by decide +kernel
theorem dX5_melt_1 : decode cX5_melt 1 = .ok (.iload_n 1, 1) := by decide +kernel
theorem dX5_melt_2 : decode cX5_melt 2 = .ok (.invokevirtual 111, 3) := by decide +kernel
theorem dX5_melt_5 : decode cX5_melt 5 = .ok (.ifCond .eq 11, 3) := by decide +kernel
theorem dX5_melt_8 : decode cX5_melt 8 = .ok (.aload_n 0, 1) := by decide +kernel
theorem dX5_melt_9 : decode cX5_melt 9 = .ok (.iload_n 2, 1) := by decide +kernel
theorem dX5_melt_10 : decode cX5_melt 10 = .ok (.invokevirtual 111, 3) := by decide +kernel
theorem dX5_melt_13 : decode cX5_melt 13 = .ok (.ifCond .ne 7, 3) := by decide +kernel
theorem dX5_melt_16 : decode cX5_melt 16 = .ok (.sipush (-1001), 3) := by decide +kernel
theorem dX5_melt_19 : decode cX5_melt 19 = .ok (.ireturn, 1) := by decide +kernel
theorem dX5_melt_20 : decode cX5_melt 20 = .ok (.iconst 0, 1) := by decide +kernel
theorem dX5_melt_21 : decode cX5_melt 21 = .ok (.istore_n 3, 1) := by decide +kernel
theorem dX5_melt_22 : decode cX5_melt 22 = .ok (.iconst 0, 1) := by decide +kernel
theorem dX5_melt_23 : decode cX5_melt 23 = .ok (.istore 4, 2) := by decide +kernel
theorem dX5_melt_25 : decode cX5_melt 25 = .ok (.iload 4, 2) := by decide +kernel
theorem dX5_melt_27 : decode cX5_melt 27 = .ok (.iconst 3, 1) := by decide +kernel
theorem dX5_melt_28 : decode cX5_melt 28 = .ok (.if_icmp .ge 42, 3) := by decide +kernel
theorem dX5_melt_31 : decode cX5_melt 31 = .ok (.iload_n 3, 1) := by decide +kernel
theorem dX5_melt_32 : decode cX5_melt 32 = .ok (.aload_n 0, 1) := by decide +kernel
theorem dX5_melt_33 : decode cX5_melt 33 = .ok (.getfield 39, 3) := by decide +kernel
theorem dX5_melt_36 : decode cX5_melt 36 = .ok (.iconst 3, 1) := by decide +kernel
theorem dX5_melt_37 : decode cX5_melt 37 = .ok (.iload_n 1, 1) := by decide +kernel
theorem dX5_melt_38 : decode cX5_melt 38 = .ok (.imul, 1) := by decide +kernel
theorem dX5_melt_39 : decode cX5_melt 39 = .ok (.iload 4, 2) := by decide +kernel
theorem dX5_melt_41 : decode cX5_melt 41 = .ok (.iadd, 1) := by decide +kernel
theorem dX5_melt_42 : decode cX5_melt 42 = .ok (.iaload, 1) := by decide +kernel
theorem dX5_melt_43 : decode cX5_melt 43 = .ok (.aload_n 0, 1) := by decide +kernel
theorem dX5_melt_44 : decode cX5_melt 44 = .ok (.getfield 39, 3) := by decide +kernel
theorem dX5_melt_47 : decode cX5_melt 47 = .ok (.iconst 3, 1) := by decide +kernel
theorem dX5_melt_48 : decode cX5_melt 48 = .ok (.iload_n 2, 1) := by decide +kernel
theorem dX5_melt_49 : decode cX5_melt 49 = .ok (.imul, 1) := by decide +kernel
theorem dX5_melt_50 : decode cX5_melt 50 = .ok (.iload 4, 2) := by decide +kernel
theorem dX5_melt_52 : decode cX5_melt 52 = .ok (.iadd, 1) := by decide +kernel
theorem dX5_melt_53 : decode cX5_melt 53 = .ok (.iaload, 1) := by decide +kernel
theorem dX5_melt_54 : decode cX5_melt 54 = .ok (.if_icmp .ne 7, 3) := by decide +kernel
theorem dX5_melt_57 : decode cX5_melt 57 = .ok (.iconst 1, 1) := by decide +kernel
theorem dX5_melt_58 : decode cX5_melt 58 = .ok (.goto 4, 3) := by decide +kernel
theorem dX5_melt_61 : decode cX5_melt 61 = .ok (.iconst 0, 1) := by decide +kernel
theorem dX5_melt_62 : decode cX5_melt 62 = .ok (.iadd, 1) := by decide +kernel
theorem dX5_melt_63 : decode cX5_melt 63 = .ok (.istore_n 3, 1) := by decide +kernel
theorem dX5_melt_64 : decode cX5_melt 64 = .ok (.iinc 4 1, 3) := by decide +kernel
theorem dX5_melt_67 : decode cX5_melt 67 = .ok (.goto (-42), 3) := by decide +kernel
theorem dX5_melt_70 : decode cX5_melt 70 = .ok (.iload_n 1, 1) := by decide +kernel
theorem dX5_melt_71 : decode cX5_melt 71 = .ok (.iload_n 2, 1) := by decide +kernel
theorem dX5_melt_72 : decode cX5_melt 72 = .ok (.if_icmp .eq 57, 3) := by decide +kernel
theorem dX5_melt_75 : decode cX5_melt 75 = .ok (.aload_n 0, 1) := by decide +kernel
theorem dX5_melt_76 : decode cX5_melt 76 = .ok (.iload_n 1, 1) := by decide +kernel
theorem dX5_melt_77 : decode cX5_melt 77 = .ok (.invokevirtual 115, 3) := by decide +kernel
theorem dX5_melt_80 : decode cX5_melt 80 = .ok (.ifCond .eq 49, 3) := by decide +kernel
theorem dX5_melt_83 : decode cX5_melt 83 = .ok (.aload_n 0, 1) := by decide +kernel
theorem dX5_melt_84 : decode cX5_melt 84 = .ok (.iload_n 2, 1) := by decide +kernel
theorem dX5_melt_85 : decode cX5_melt 85 = .ok (.invokevirtual 115, 3) := by decide +kernel
theorem dX5_melt_88 : decode cX5_melt 88 = .ok (.ifCond .eq 41, 3) := by decide +kernel
theorem dX5_melt_91 : decode cX5_melt 91 = .ok (.aload_n 0, 1) := by decide +kernel
theorem dX5_melt_92 : decode cX5_melt 92 = .ok (.getfield 36, 3) := by decide +kernel
theorem dX5_melt_95 : decode cX5_melt 95 = .ok (.iload_n 1, 1) := by decide +kernel
theorem dX5_melt_96 : decode cX5_melt 96 = .ok (.iaload, 1) := by decide +kernel
theorem dX5_melt_97 : decode cX5_melt 97 = .ok (.aload_n 0, 1) := by decide +kernel
theorem dX5_melt_98 : decode cX5_melt 98 = .ok (.getfield 36, 3) := by decide +kernel
theorem dX5_melt_101 : decode cX5_melt 101 = .ok (.iload_n 2, 1) := by decide +kernel
theorem dX5_melt_102 : decode cX5_melt 102 = .ok (.iaload, 1) := by decide +kernel
theorem dX5_melt_103 : decode cX5_melt 103 = .ok (.if_icmp .ne 26, 3) := by decide +kernel
theorem dX5_melt_106 : decode cX5_melt 106 = .ok (.iload_n 3, 1) := by decide +kernel
theorem dX5_melt_107 : decode cX5_melt 107 = .ok (.iconst 2, 1) := by decide +kernel
theorem dX5_melt_108 : decode cX5_melt 108 = .ok (.if_icmp .ge 25, 3) := by decide +kernel
theorem dX5_melt_111 : decode cX5_melt 111 = .ok (.aload_n 0, 1) := by decide +kernel
theorem dX5_melt_112 : decode cX5_melt 112 = .ok (.iload_n 1, 1) := by decide +kernel
theorem dX5_melt_113 : decode cX5_melt 113 = .ok (.iload_n 2, 1) := by decide +kernel
theorem dX5_melt_114 : decode cX5_melt 114 = .ok (.invokevirtual 138, 3) := by decide +kernel
theorem dX5_melt_117 : decode cX5_melt 117 = .ok (.ifCond .ne 16, 3) := by decide +kernel
theorem dX5_melt_120 : decode cX5_melt 120 = .ok (.aload_n 0, 1) := by decide +kernel
theorem dX5_melt_121 : decode cX5_melt 121 = .ok (.iload_n 2, 1) := by decide +kernel
theorem dX5_melt_122 : decode cX5_melt 122 = .ok (.iload_n 1, 1) := by decide +kernel
theorem dX5_melt_123 : decode cX5_melt 123 = .ok (.invokevirtual 138, 3) := by decide +kernel
theorem dX5_melt_126 : decode cX5_melt 126 = .ok (.ifCond .ne 7, 3) := by decide +kernel
theorem dX5_melt_129 : decode cX5_melt 129 = .ok (.sipush (-1003), 3) := by decide +kernel
theorem dX5_melt_132 : decode cX5_melt 132 = .ok (.ireturn, 1) := by decide +kernel
theorem dX5_melt_133 : decode cX5_melt 133 = .ok (.aload_n 0, 1) := by decide +kernel
theorem dX5_melt_134 : decode cX5_melt 134 = .ok (.getfield 32, 3) := by decide +kernel
theorem dX5_melt_137 : decode cX5_melt 137 = .ok (.iload_n 1, 1) := by decide +kernel
theorem dX5_melt_138 : decode cX5_melt 138 = .ok (.dup2, 1) := by decide +kernel
theorem dX5_melt_139 : decode cX5_melt 139 = .ok (.laload, 1) := by decide +kernel
theorem dX5_melt_140 : decode cX5_melt 140 = .ok (.aload_n 0, 1) := by decide +kernel
theorem dX5_melt_141 : decode cX5_melt 141 = .ok (.getfield 32, 3) := by decide +kernel
theorem dX5_melt_144 : decode cX5_melt 144 = .ok (.iload_n 2, 1) := by decide +kernel
theorem dX5_melt_145 : decode cX5_melt 145 = .ok (.laload, 1) := by decide +kernel
theorem dX5_melt_146 : decode cX5_melt 146 = .ok (.lor, 1) := by decide +kernel
theorem dX5_melt_147 : decode cX5_melt 147 = .ok (.lastore, 1) := by decide +kernel
theorem dX5_melt_148 : decode cX5_melt 148 = .ok (.aload_n 0, 1) := by decide +kernel
theorem dX5_melt_149 : decode cX5_melt 149 = .ok (.getfield 42, 3) := by decide +kernel
theorem dX5_melt_152 : decode cX5_melt 152 = .ok (.iload_n 1, 1) := by decide +kernel
theorem dX5_melt_153 : decode cX5_melt 153 = .ok (.dup2, 1) := by decide +kernel
theorem dX5_melt_154 : decode cX5_melt 154 = .ok (.iaload, 1) := by decide +kernel
theorem dX5_melt_155 : decode cX5_melt 155 = .ok (.aload_n 0, 1) := by decide +kernel
theorem dX5_melt_156 : decode cX5_melt 156 = .ok (.getfield 42, 3) := by decide +kernel
theorem dX5_melt_159 : decode cX5_melt 159 = .ok (.iload_n 2, 1) := by decide +kernel
theorem dX5_melt_160 : decode cX5_melt 160 = .ok (.iaload, 1) := by decide +kernel
theorem dX5_melt_161 : decode cX5_melt 161 = .ok (.ior, 1) := by decide +kernel
theorem dX5_melt_162 : decode cX5_melt 162 = .ok (.iastore, 1) := by decide +kernel
theorem dX5_melt_163 : decode cX5_melt 163 = .ok (.aload_n 0, 1) := by decide +kernel
theorem dX5_melt_164 : decode cX5_melt 164 = .ok (.getfield 45, 3) := by decide +kernel
theorem dX5_melt_167 : decode cX5_melt 167 = .ok (.iload_n 1, 1) := by decide +kernel
theorem dX5_melt_168 : decode cX5_melt 168 = .ok (.aload_n 0, 1) := by decide +kernel
theorem dX5_melt_169 : decode cX5_melt 169 = .ok (.getfield 45, 3) := by decide +kernel
theorem dX5_melt_172 : decode cX5_melt 172 = .ok (.iload_n 2, 1) := by decide +kernel
theorem dX5_melt_173 : decode cX5_melt 173 = .ok (.iaload, 1) := by decide +kernel
theorem dX5_melt_174 : decode cX5_melt 174 = .ok (.aload_n 0, 1) := by decide +kernel
theorem dX5_melt_175 : decode cX5_melt 175 = .ok (.getfield 45, 3) := by decide +kernel
theorem dX5_melt_178 : decode cX5_melt 178 = .ok (.iload_n 1, 1) := by decide +kernel
theorem dX5_melt_179 : decode cX5_melt 179 = .ok (.iaload, 1) := by decide +kernel
theorem dX5_melt_180 : decode cX5_melt 180 = .ok (.if_icmp .ge 12, 3) := by decide +kernel
theorem dX5_melt_183 : decode cX5_melt 183 = .ok (.aload_n 0, 1) := by decide +kernel
theorem dX5_melt_184 : decode cX5_melt 184 = .ok (.getfield 45, 3) := by decide +kernel
theorem dX5_melt_187 : decode cX5_melt 187 = .ok (.iload_n 2, 1) := by decide +kernel
theorem dX5_melt_188 : decode cX5_melt 188 = .ok (.iaload, 1) := by decide +kernel
theorem dX5_melt_189 : decode cX5_melt 189 = .ok (.goto 9, 3) := by decide +kernel
theorem dX5_melt_192 : decode cX5_melt 192 = .ok (.aload_n 0, 1) := by decide +kernel
theorem dX5_melt_193 : decode cX5_melt 193 = .ok (.getfield 45, 3) := by decide +kernel
theorem dX5_melt_196 : decode cX5_melt 196 = .ok (.iload_n 1, 1) := by decide +kernel
theorem dX5_melt_197 : decode cX5_melt 197 = .ok (.iaload, 1) := by decide +kernel
theorem dX5_melt_198 : decode cX5_melt 198 = .ok (.iastore, 1) := by decide +kernel
theorem dX5_melt_199 : decode cX5_melt 199 = .ok (.aload_n 0, 1) := by decide +kernel
theorem dX5_melt_200 : decode cX5_melt 200 = .ok (.getfield 48, 3) := by decide +kernel
theorem dX5_melt_203 : decode cX5_melt 203 = .ok (.iload_n 1, 1) := by decide +kernel
theorem dX5_melt_204 : decode cX5_melt 204 = .ok (.dup2, 1) := by decide +kernel
theorem dX5_melt_205 : decode cX5_melt 205 = .ok (.iaload, 1) := by decide +kernel
theorem dX5_melt_206 : decode cX5_melt 206 = .ok (.aload_n 0, 1) := by decide +kernel
theorem dX5_melt_207 : decode cX5_melt 207 = .ok (.getfield 48, 3) := by decide +kernel
theorem dX5_melt_210 : decode cX5_melt 210 = .ok (.iload_n 2, 1) := by decide +kernel
theorem dX5_melt_211 : decode cX5_melt 211 = .ok (.iaload, 1) := by decide +kernel
theorem dX5_melt_212 : decode cX5_melt 212 = .ok (.iadd, 1) := by decide +kernel
