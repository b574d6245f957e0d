set_option maxHeartbeats 4000000 in
set_option maxRecDepth 100000 in
theorem m_J6_bitCount_0f7a4 (l : Launch) (G : k_G) (PW : Heap → Prop) (x : Int32) : k_Met l yJ6_bitCount_0f7a4 cJ6_bitCount_0f7a4 1 (some FieldType.int) { frames := 0, cells := 0, slots := 0, locals := 0 } G [.int x] (PW) (some (.int (kBC32 x))) (PW) 0 0 := by
  refine k_body (by decide) (Nat.le_of_ble_eq_true rfl) ?_
  intro p e s m below meth c ls X hr hlk hnm hW hS hl
  have hx := X.1.1
  have hb := X.1.2.1
  have hG := X.1.2.2.2.2
  have hl : lv_has ls 1 [(0, .int x)] := hl
  refine lv_iload_n hx hb dJ6_bitCount_0f7a4_0 rfl (lv_at hl 0 rfl) ?_
  refine lv_iload_n hx hb dJ6_bitCount_0f7a4_1 rfl (lv_at hl 0 rfl) ?_
  refine lv_iconst (v := 1) hx hb dJ6_bitCount_0f7a4_2 (by decide) ?_
  refine lv_iushr (v := (x.toUInt32 >>> (Int32.toUInt32 1 &&& Int32.toUInt32 31)).toInt32) hx hb dJ6_bitCount_0f7a4_3 rfl ?_
  refine lv_topi (fun x1 ex1 => ?_)
  refine lv_ldcw hx hb X.1.2.2.2.1 (hG _ g260) dJ6_bitCount_0f7a4_4 ?_
  refine lv_iand hx hb dJ6_bitCount_0f7a4_7 ?_
  refine lv_isub hx hb dJ6_bitCount_0f7a4_8 ?_
  refine lv_istore_n (lv' := [(0, .int (x - (x1 &&& 1431655765)))]) hx hb dJ6_bitCount_0f7a4_9 rfl hl (by decide) rfl (fun ls hl => ?_)
  refine lv_iload_n hx hb dJ6_bitCount_0f7a4_10 rfl (lv_at hl 0 rfl) ?_
  refine lv_ldcw hx hb X.1.2.2.2.1 (hG _ g261) dJ6_bitCount_0f7a4_11 ?_
  refine lv_iand hx hb dJ6_bitCount_0f7a4_14 ?_
  refine lv_iload_n hx hb dJ6_bitCount_0f7a4_15 rfl (lv_at hl 0 rfl) ?_
  refine lv_iconst (v := 2) hx hb dJ6_bitCount_0f7a4_16 (by decide) ?_
  refine lv_iushr (v := ((x - (x1 &&& 1431655765)).toUInt32 >>> (Int32.toUInt32 2 &&& Int32.toUInt32 31)).toInt32) hx hb dJ6_bitCount_0f7a4_17 rfl ?_
  refine lv_topi (fun x2 ex2 => ?_)
  refine lv_ldcw hx hb X.1.2.2.2.1 (hG _ g261) dJ6_bitCount_0f7a4_18 ?_
  refine lv_iand hx hb dJ6_bitCount_0f7a4_21 ?_
  refine lv_iadd hx hb dJ6_bitCount_0f7a4_22 ?_
  refine lv_topi (fun x3 ex3 => ?_)
  refine lv_istore_n (lv' := [(0, .int x3)]) hx hb dJ6_bitCount_0f7a4_23 rfl hl (by decide) rfl (fun ls hl => ?_)
  refine lv_iload_n hx hb dJ6_bitCount_0f7a4_24 rfl (lv_at hl 0 rfl) ?_
  refine lv_iload_n hx hb dJ6_bitCount_0f7a4_25 rfl (lv_at hl 0 rfl) ?_
  refine lv_iconst (v := 4) hx hb dJ6_bitCount_0f7a4_26 (by decide) ?_
  refine lv_iushr (v := (x3.toUInt32 >>> (Int32.toUInt32 4 &&& Int32.toUInt32 31)).toInt32) hx hb dJ6_bitCount_0f7a4_27 rfl ?_
  refine lv_topi (fun x4 ex4 => ?_)
  refine lv_iadd hx hb dJ6_bitCount_0f7a4_28 ?_
  refine lv_ldcw hx hb X.1.2.2.2.1 (hG _ g262) dJ6_bitCount_0f7a4_29 ?_
  refine lv_iand hx hb dJ6_bitCount_0f7a4_32 ?_
  refine lv_istore_n (lv' := [(0, .int ((x3 + x4) &&& 252645135))]) hx hb dJ6_bitCount_0f7a4_33 rfl hl (by decide) rfl (fun ls hl => ?_)
  refine lv_iload_n hx hb dJ6_bitCount_0f7a4_34 rfl (lv_at hl 0 rfl) ?_
  refine lv_iload_n hx hb dJ6_bitCount_0f7a4_35 rfl (lv_at hl 0 rfl) ?_
  refine lv_bipush (v := 8) hx hb dJ6_bitCount_0f7a4_36 (by decide) ?_
  refine lv_iushr (v := (((x3 + x4) &&& 252645135).toUInt32 >>> (Int32.toUInt32 8 &&& Int32.toUInt32 31)).toInt32) hx hb dJ6_bitCount_0f7a4_38 rfl ?_
  refine lv_topi (fun x5 ex5 => ?_)
  refine lv_iadd hx hb dJ6_bitCount_0f7a4_39 ?_
  refine lv_istore_n (lv' := [(0, .int (((x3 + x4) &&& 252645135) + x5))]) hx hb dJ6_bitCount_0f7a4_40 rfl hl (by decide) rfl (fun ls hl => ?_)
  refine lv_iload_n hx hb dJ6_bitCount_0f7a4_41 rfl (lv_at hl 0 rfl) ?_
  refine lv_iload_n hx hb dJ6_bitCount_0f7a4_42 rfl (lv_at hl 0 rfl) ?_
  refine lv_bipush (v := 16) hx hb dJ6_bitCount_0f7a4_43 (by decide) ?_
  refine lv_iushr (v := ((((x3 + x4) &&& 252645135) + x5).toUInt32 >>> (Int32.toUInt32 16 &&& Int32.toUInt32 31)).toInt32) hx hb dJ6_bitCount_0f7a4_45 rfl ?_
  refine lv_topi (fun x6 ex6 => ?_)
  refine lv_iadd hx hb dJ6_bitCount_0f7a4_46 ?_
  refine lv_istore_n (lv' := [(0, .int ((((x3 + x4) &&& 252645135) + x5) + x6))]) hx hb dJ6_bitCount_0f7a4_47 rfl hl (by decide) rfl (fun ls hl => ?_)
  refine lv_iload_n hx hb dJ6_bitCount_0f7a4_48 rfl (lv_at hl 0 rfl) ?_
  refine lv_bipush (v := 63) hx hb dJ6_bitCount_0f7a4_49 (by decide) ?_
  refine lv_iand hx hb dJ6_bitCount_0f7a4_51 ?_
  refine lv_topi (fun x7 ex7 => ?_)
  exact w_iret X hr hlk hS (by subst_vars; rfl) hW dJ6_bitCount_0f7a4_52
set_option maxHeartbeats 4000000 in
set_option maxRecDepth 100000 in
theorem m_J13_bitCount_95d88 (l : Launch) (G : k_G) (PW : Heap → Prop) (x : Int64) : k_Met l yJ13_bitCount_95d88 cJ13_bitCount_95d88 2 (some FieldType.int) { frames := 0, cells := 0, slots := 0, locals := 0 } G [.long (x)] (PW) (some (.int (kBC64 x))) (PW) 0 0 := by
  refine k_body (by decide) (Nat.le_of_ble_eq_true rfl) ?_
  intro p e s m below meth c ls X hr hlk hnm hW hS hl
  have hx := X.1.1
  have hb := X.1.2.1
  have hG := X.1.2.2.2.2
  have hl : lv_has ls 2 [(0, .long (x))] := hl
  refine lv_lload_n hx hb dJ13_bitCount_95d88_0 rfl (lv_at hl 0 rfl) ?_
  refine lv_lload_n hx hb dJ13_bitCount_95d88_1 rfl (lv_at hl 0 rfl) ?_
  refine lv_iconst (v := 1) hx hb dJ13_bitCount_95d88_2 (by decide) ?_
  refine lv_lushr (v := (x.toUInt64 >>> ((Int32.toInt64 1).toUInt64 &&& Int64.toUInt64 63)).toInt64) hx hb dJ13_bitCount_95d88_3 rfl ?_
  refine lv_topl (fun x1 ex1 => ?_)
  refine lv_ldc2 hx hb X.1.2.2.2.1 (hG _ g380) dJ13_bitCount_95d88_4 ?_
  refine lv_land hx hb dJ13_bitCount_95d88_7 ?_
  refine lv_lsub hx hb dJ13_bitCount_95d88_8 ?_
  refine lv_lstore_n (lv' := [(0, .long (x - (x1 &&& 6148914691236517205)))]) hx hb dJ13_bitCount_95d88_9 rfl hl (by decide) rfl (fun ls hl => ?_)
  refine lv_lload_n hx hb dJ13_bitCount_95d88_10 rfl (lv_at hl 0 rfl) ?_
  refine lv_ldc2 hx hb X.1.2.2.2.1 (hG _ g381) dJ13_bitCount_95d88_11 ?_
  refine lv_land hx hb dJ13_bitCount_95d88_14 ?_
  refine lv_topl (fun x2 ex2 => ?_)
  refine lv_lload_n hx hb dJ13_bitCount_95d88_15 rfl (lv_at hl 0 rfl) ?_
  refine lv_iconst (v := 2) hx hb dJ13_bitCount_95d88_16 (by decide) ?_
  refine lv_lushr (v := ((x - (x1 &&& 6148914691236517205)).toUInt64 >>> ((Int32.toInt64 2).toUInt64 &&& Int64.toUInt64 63)).toInt64) hx hb dJ13_bitCount_95d88_17 rfl ?_
  refine lv_topl (fun x3 ex3 => ?_)
  refine lv_ldc2 hx hb X.1.2.2.2.1 (hG _ g381) dJ13_bitCount_95d88_18 ?_
  refine lv_land hx hb dJ13_bitCount_95d88_21 ?_
  refine lv_ladd hx hb dJ13_bitCount_95d88_22 ?_
  refine lv_lstore_n (lv' := [(0, .long (x2 + (x3 &&& 3689348814741910323)))]) hx hb dJ13_bitCount_95d88_23 rfl hl (by decide) rfl (fun ls hl => ?_)
  refine lv_lload_n hx hb dJ13_bitCount_95d88_24 rfl (lv_at hl 0 rfl) ?_
  refine lv_lload_n hx hb dJ13_bitCount_95d88_25 rfl (lv_at hl 0 rfl) ?_
  refine lv_iconst (v := 4) hx hb dJ13_bitCount_95d88_26 (by decide) ?_
  refine lv_lushr (v := ((x2 + (x3 &&& 3689348814741910323)).toUInt64 >>> ((Int32.toInt64 4).toUInt64 &&& Int64.toUInt64 63)).toInt64) hx hb dJ13_bitCount_95d88_27 rfl ?_
  refine lv_topl (fun x4 ex4 => ?_)
  refine lv_ladd hx hb dJ13_bitCount_95d88_28 ?_
  refine lv_ldc2 hx hb X.1.2.2.2.1 (hG _ g382) dJ13_bitCount_95d88_29 ?_
  refine lv_land hx hb dJ13_bitCount_95d88_32 ?_
  refine lv_topl (fun x5 ex5 => ?_)
  refine lv_lstore_n (lv' := [(0, .long (x5))]) hx hb dJ13_bitCount_95d88_33 rfl hl (by decide) rfl (fun ls hl => ?_)
  refine lv_lload_n hx hb dJ13_bitCount_95d88_34 rfl (lv_at hl 0 rfl) ?_
  refine lv_lload_n hx hb dJ13_bitCount_95d88_35 rfl (lv_at hl 0 rfl) ?_
  refine lv_bipush (v := 8) hx hb dJ13_bitCount_95d88_36 (by decide) ?_
  refine lv_lushr (v := (x5.toUInt64 >>> ((Int32.toInt64 8).toUInt64 &&& Int64.toUInt64 63)).toInt64) hx hb dJ13_bitCount_95d88_38 rfl ?_
  refine lv_topl (fun x6 ex6 => ?_)
  refine lv_ladd hx hb dJ13_bitCount_95d88_39 ?_
  refine lv_lstore_n (lv' := [(0, .long (x5 + x6))]) hx hb dJ13_bitCount_95d88_40 rfl hl (by decide) rfl (fun ls hl => ?_)
  refine lv_lload_n hx hb dJ13_bitCount_95d88_41 rfl (lv_at hl 0 rfl) ?_
  refine lv_lload_n hx hb dJ13_bitCount_95d88_42 rfl (lv_at hl 0 rfl) ?_
  refine lv_bipush (v := 16) hx hb dJ13_bitCount_95d88_43 (by decide) ?_
  refine lv_lushr (v := ((x5 + x6).toUInt64 >>> ((Int32.toInt64 16).toUInt64 &&& Int64.toUInt64 63)).toInt64) hx hb dJ13_bitCount_95d88_45 rfl ?_
  refine lv_topl (fun x7 ex7 => ?_)
  refine lv_ladd hx hb dJ13_bitCount_95d88_46 ?_
  refine lv_lstore_n (lv' := [(0, .long ((x5 + x6) + x7))]) hx hb dJ13_bitCount_95d88_47 rfl hl (by decide) rfl (fun ls hl => ?_)
  refine lv_lload_n hx hb dJ13_bitCount_95d88_48 rfl (lv_at hl 0 rfl) ?_
  refine lv_lload_n hx hb dJ13_bitCount_95d88_49 rfl (lv_at hl 0 rfl) ?_
  refine lv_bipush (v := 32) hx hb dJ13_bitCount_95d88_50 (by decide) ?_
  refine lv_lushr (v := (((x5 + x6) + x7).toUInt64 >>> ((Int32.toInt64 32).toUInt64 &&& Int64.toUInt64 63)).toInt64) hx hb dJ13_bitCount_95d88_52 rfl ?_
  refine lv_topl (fun x8 ex8 => ?_)
  refine lv_ladd hx hb dJ13_bitCount_95d88_53 ?_
  refine lv_lstore_n (lv' := [(0, .long (((x5 + x6) + x7) + x8))]) hx hb dJ13_bitCount_95d88_54 rfl hl (by decide) rfl (fun ls hl => ?_)
  refine lv_lload_n hx hb dJ13_bitCount_95d88_55 rfl (lv_at hl 0 rfl) ?_
  refine lv_l2i (v := Int64.toInt32 (((x5 + x6) + x7) + x8)) hx hb dJ13_bitCount_95d88_56 rfl ?_
  refine lv_bipush (v := 127) hx hb dJ13_bitCount_95d88_57 (by decide) ?_
  refine lv_iand hx hb dJ13_bitCount_95d88_59 ?_
  refine lv_topi (fun x9 ex9 => ?_)
  exact w_iret X hr hlk hS (by subst_vars; rfl) hW dJ13_bitCount_95d88_60
set_option maxHeartbeats 4000000 in
set_option maxRecDepth 100000 in
theorem m_X4_far (l : Launch) (G : k_G) (PW : Heap → Prop) (x : Int64) (y : Int64) : k_Met l yX4_far cX4_far 4 (some FieldType.int) { frames := 1, cells := 0, slots := 0, locals := 21 } G [.long (x), .long (y)] (PW) (some (.int (kFar x y))) (PW) 0 0 := by
  refine k_body (by decide) (Nat.le_of_ble_eq_true rfl) ?_
  intro p e s m below meth c ls X hr hlk hnm hW hS hl
  have hx := X.1.1
  have hb := X.1.2.1
  have hG := X.1.2.2.2.2
  have hl : lv_has ls 4 [(0, .long (x)), (2, .long (y))] := hl
  refine lv_lload_n hx hb dX4_far_0 rfl (lv_at hl 0 rfl) ?_
  refine lv_lload_n hx hb dX4_far_1 rfl (lv_at hl 1 rfl) ?_
  refine lv_lxor hx hb dX4_far_2 ?_
  refine w_cS1 X hS (m_J13_bitCount_95d88 l G (PW) (x ^^^ y) ) rfl rfl g379 g8 g377 g378 hd_J13_bitCount_95d88 ⟨Nat.le_of_ble_eq_true rfl, Nat.le_of_ble_eq_true rfl⟩ hW hl.1 rfl (Nat.le_of_ble_eq_true rfl) dX4_far_3 (Nat.zero_le _) (Nat.zero_le _) (fun H locs hW hS => ?_)
  exact w_iret X hr hlk hS (by first | rfl | (simp []; done) | (simp []; rfl)) hW dX4_far_6
set_option maxHeartbeats 4000000 in
set_option maxRecDepth 100000 in
theorem m_X4_answerAt (l : Launch) (G : k_G) (ad : Nat → Nat → Nat) (nA nK : Nat) (I : k_I) (J : k_J) (a : Int32) (hs : k_S nA nK I) : k_Met l yX4_answerAt cX4_answerAt 2 (some (FieldType.object "AnswerKeeper$Answer")) { frames := 0, cells := 0, slots := 0, locals := 0 } G [.ref (ad 0 0), .int a] (Wd G ad nA nK I J) (some (va_rf (Option.map (ad 8) (kAns nA a)))) (Wd G ad nA nK I J) 0 0 := by
  refine k_body (by decide) (Nat.le_of_ble_eq_true rfl) ?_
  intro p e s m below meth c ls X hr hlk hnm hW hS hl
  have hx := X.1.1
  have hb := X.1.2.1
  have hG := X.1.2.2.2.2
  have hA24 := hs.2.2.1
  have hK30 := hs.2.2.2.1
  have hl : lv_has ls 2 [(0, .ref (ad 0 0)), (1, .int a)] := hl
  refine lv_iload_n hx hb dX4_answerAt_0 rfl (lv_at hl 1 rfl) ?_
  refine lv_if_lt (tgt := 30) hx hb dX4_answerAt_1 (by decide) (fun c_1 => ?_) (fun c_1 => ?_)
  · skip
    refine lv_null hx hb dX4_answerAt_30 ?_
    exact w_aret X hr hlk hS (by simp [kAns, c_1]; try rfl) hW dX4_answerAt_31
  · skip
    refine lv_iload_n hx hb dX4_answerAt_4 rfl (lv_at hl 1 rfl) ?_
    refine lv_aload_n hx hb dX4_answerAt_5 rfl (lv_at hl 0 rfl) ?_
    refine w_get (v := .int (nI nA)) X hW 0 0 Nat.zero_lt_one rfl rfl inG4 4 (by decide) g53 (congrArg (fun z => some (Value.int z)) hs.1) dX4_answerAt_6 ?_
    refine lv_icmp_ge (tgt := 30) hx hb dX4_answerAt_9 (by decide) (fun c_2 => ?_) (fun c_2 => ?_)
    · skip
      refine lv_null hx hb dX4_answerAt_30 ?_
      exact w_aret X hr hlk hS (by simp [kAns, c_1, c_2]; try rfl) hW dX4_answerAt_31
    · skip
      refine lv_iload_n hx hb dX4_answerAt_12 rfl (lv_at hl 1 rfl) ?_
      refine lv_aload_n hx hb dX4_answerAt_13 rfl (lv_at hl 0 rfl) ?_
      refine w_get X hW 0 0 Nat.zero_lt_one rfl rfl inG4 2 (by decide) g51 rfl dX4_answerAt_14 ?_
      refine w_alen X hW 6 0 Nat.zero_lt_one rfl 3 rfl (v := 24) rfl dX4_answerAt_17 ?_
      refine lv_icmp_ge (tgt := 30) hx hb dX4_answerAt_18 (by decide) (fun c_3 => ?_) (fun c_3 => ?_)
      · skip
        refine lv_null hx hb dX4_answerAt_30 ?_
        exact w_aret X hr hlk hS ((kAns_x (a := a) (N := 24) hA24 (by decide) c_2 c_3).elim) hW dX4_answerAt_31
      · skip
        refine lv_aload_n hx hb dX4_answerAt_21 rfl (lv_at hl 0 rfl) ?_
        refine w_get X hW 0 0 Nat.zero_lt_one rfl rfl inG4 2 (by decide) g51 rfl dX4_answerAt_22 ?_
        refine lv_iload_n hx hb dX4_answerAt_25 rfl (lv_at hl 1 rfl) ?_
        have hin : vp_in a 24 := (k_in_a c_1 c_3 rfl)
        have hq : kAns nA a = some a.toNatClampNeg := by simp [kAns, c_1, c_2, c_3]
        have hf := hs.2.2.2.2.1 a.toNatClampNeg (kAns_b hq)
        refine w_aald X hW 6 0 Nat.zero_lt_one rfl 3 rfl hin dX4_answerAt_26 ?_
        rw [if_neg hf]
        refine lv_goto (tgt := 31) hx hb dX4_answerAt_27 (by decide) ?_
        exact w_aret X hr hlk hS (by rw [hq]; rfl) hW dX4_answerAt_31
set_option maxHeartbeats 4000000 in
set_option maxRecDepth 100000 in
theorem m_X4_askAt (l : Launch) (G : k_G) (ad : Nat → Nat → Nat) (nA nK : Nat) (I : k_I) (J : k_J) (a : Int32) (hs : k_S nA nK I) : k_Met l yX4_askAt cX4_askAt 2 (some (FieldType.object "AnswerKeeper$Ask")) { frames := 0, cells := 0, slots := 0, locals := 0 } G [.ref (ad 0 0), .int a] (Wd G ad nA nK I J) (some (va_rf (Option.map (ad 11) (kAns nK a)))) (Wd G ad nA nK I J) 0 0 := by
  refine k_body (by decide) (Nat.le_of_ble_eq_true rfl) ?_
  intro p e s m below meth c ls X hr hlk hnm hW hS hl
  have hx := X.1.1
  have hb := X.1.2.1
  have hG := X.1.2.2.2.2
  have hA24 := hs.2.2.1
  have hK30 := hs.2.2.2.1
  have hl : lv_has ls 2 [(0, .ref (ad 0 0)), (1, .int a)] := hl
  refine lv_iload_n hx hb dX4_askAt_0 rfl (lv_at hl 1 rfl) ?_
  refine lv_if_lt (tgt := 30) hx hb dX4_askAt_1 (by decide) (fun c_1 => ?_) (fun c_1 => ?_)
  · skip
    refine lv_null hx hb dX4_askAt_30 ?_
    exact w_aret X hr hlk hS (by simp [kAns, c_1]; try rfl) hW dX4_askAt_31
  · skip
    refine lv_iload_n hx hb dX4_askAt_4 rfl (lv_at hl 1 rfl) ?_
    refine lv_aload_n hx hb dX4_askAt_5 rfl (lv_at hl 0 rfl) ?_
    refine w_get (v := .int (nI nK)) X hW 0 0 Nat.zero_lt_one rfl rfl inG4 5 (by decide) g54 (congrArg (fun z => some (Value.int z)) hs.2.1) dX4_askAt_6 ?_
    refine lv_icmp_ge (tgt := 30) hx hb dX4_askAt_9 (by decide) (fun c_2 => ?_) (fun c_2 => ?_)
    · skip
      refine lv_null hx hb dX4_askAt_30 ?_
      exact w_aret X hr hlk hS (by simp [kAns, c_1, c_2]; try rfl) hW dX4_askAt_31
    · skip
      refine lv_iload_n hx hb dX4_askAt_12 rfl (lv_at hl 1 rfl) ?_
      refine lv_aload_n hx hb dX4_askAt_13 rfl (lv_at hl 0 rfl) ?_
      refine w_get X hW 0 0 Nat.zero_lt_one rfl rfl inG4 3 (by decide) g52 rfl dX4_askAt_14 ?_
      refine w_alen X hW 7 0 Nat.zero_lt_one rfl 4 rfl (v := 30) rfl dX4_askAt_17 ?_
      refine lv_icmp_ge (tgt := 30) hx hb dX4_askAt_18 (by decide) (fun c_3 => ?_) (fun c_3 => ?_)
      · skip
        refine lv_null hx hb dX4_askAt_30 ?_
        exact w_aret X hr hlk hS ((kAns_x (a := a) (N := 30) hK30 (by decide) c_2 c_3).elim) hW dX4_askAt_31
      · skip
        refine lv_aload_n hx hb dX4_askAt_21 rfl (lv_at hl 0 rfl) ?_
        refine w_get X hW 0 0 Nat.zero_lt_one rfl rfl inG4 3 (by decide) g52 rfl dX4_askAt_22 ?_
        refine lv_iload_n hx hb dX4_askAt_25 rfl (lv_at hl 1 rfl) ?_
        have hin : vp_in a 30 := (k_in_a c_1 c_3 rfl)
        have hq : kAns nK a = some a.toNatClampNeg := by simp [kAns, c_1, c_2, c_3]
        have hf := hs.2.2.2.2.2 a.toNatClampNeg (kAns_b hq)
        refine w_aald X hW 7 0 Nat.zero_lt_one rfl 4 rfl hin dX4_askAt_26 ?_
        rw [if_neg hf]
        refine lv_goto (tgt := 31) hx hb dX4_askAt_27 (by decide) ?_
        exact w_aret X hr hlk hS (by rw [hq]; rfl) hW dX4_askAt_31
