set_option maxHeartbeats 4000000 in
set_option maxRecDepth 100000 in
theorem m_X5_in (l : Launch) (G : k_G) (PW : Heap → Prop) (v : Int64) (a : Int64) (b : Int64) : k_Met l yX5_in cX5_in 6 (some FieldType.boolean) { frames := 0, cells := 0, slots := 0, locals := 0 } G [.long (v), .long (a), .long (b)] (PW) (some (.int (k_b (mIn v a b)))) (PW) 0 0 := by
  refine k_body (by decide) (Nat.le_of_ble_eq_true rfl) ?_
  intro p e s m below meth c ls X hr hlk hnm hW hS hl
  have hx := X.1.1
  have hb := X.1.2.1
  have hG := X.1.2.2.2.2
  have hl : lv_has ls 6 [(0, .long (v)), (2, .long (a)), (4, .long (b))] := hl
  refine lv_lload_n hx hb dX5_in_0 rfl (lv_at hl 0 rfl) ?_
  refine lv_lload_n hx hb dX5_in_1 rfl (lv_at hl 1 rfl) ?_
  refine W.lcmp hx hb dX5_in_2 ?_
  refine lv_if_lt (tgt := 17) hx hb dX5_in_3 (by decide) (fun c_1 => ?_) (fun c_1 => ?_)
  · skip
    rw [lg_cmp_lt] at c_1
    refine lv_iconst (v := 0) hx hb dX5_in_17 (by decide) ?_
    exact w_zret X hr hlk hS (by first | rfl | (simp [mIn, k_b, c_1]; done) | (simp [mIn, k_b, c_1]; rfl)) (k_b_n _) hW dX5_in_18
  · skip
    rw [lg_cmp_lt] at c_1
    refine lv_lload_n hx hb dX5_in_6 rfl (lv_at hl 0 rfl) ?_
    refine lv_lload hx hb dX5_in_7 (lv_at hl 2 rfl) ?_
    refine W.lcmp hx hb dX5_in_9 ?_
    refine lv_if_gt (tgt := 17) hx hb dX5_in_10 (by decide) (fun c_2 => ?_) (fun c_2 => ?_)
    · skip
      rw [lg_cmp_gt] at c_2
      refine lv_iconst (v := 0) hx hb dX5_in_17 (by decide) ?_
      exact w_zret X hr hlk hS (by first | rfl | (simp [mIn, k_b, c_1, c_2]; done) | (simp [mIn, k_b, c_1, c_2]; rfl)) (k_b_n _) hW dX5_in_18
    · skip
      rw [lg_cmp_gt] at c_2
      refine lv_iconst (v := 1) hx hb dX5_in_13 (by decide) ?_
      refine lv_goto (tgt := 18) hx hb dX5_in_14 (by decide) ?_
      exact w_zret X hr hlk hS (by first | rfl | (simp [mIn, k_b, c_1, c_2]; done) | (simp [mIn, k_b, c_1, c_2]; rfl)) (k_b_n _) hW dX5_in_18
set_option maxHeartbeats 4000000 in
set_option maxRecDepth 100000 in
theorem m_X5_is (l : Launch) (G : k_G) (ad : Nat → Nat → Nat) (nA nK : Nat) (mA mK : Nat) (E : Nat → Nat) (I : k_I) (J : k_J) (a : Int32) (hs : m_S mA mK E I) : k_Met l yX5_is cX5_is 2 (some FieldType.boolean) { frames := 1, cells := 0, slots := 0, locals := 25 } G [.ref (ad 13 0), .int a] (Wd G ad nA nK I J) (some (.int (k_b (mIs mA a)))) (Wd G ad nA nK I J) 0 0 := by
  refine k_body (by decide) (Nat.le_of_ble_eq_true rfl) ?_
  intro p e s m below meth c ls X hr hlk hnm hW hS hl
  have hx := X.1.1
  have hb := X.1.2.1
  have hG := X.1.2.2.2.2
  have hA24 := hs.2.2.1
  have hK30 := hs.2.2.2.1
  have hl : lv_has ls 2 [(0, .ref (ad 13 0)), (1, .int a)] := hl
  refine lv_iload_n hx hb dX5_is_0 rfl (lv_at hl 1 rfl) ?_
  refine lv_i2l (v := Int32.toInt64 a) hx hb dX5_is_1 rfl ?_
  refine lv_lconst (v := 0) hx hb dX5_is_2 (by decide) ?_
  refine lv_aload_n hx hb dX5_is_3 rfl (lv_at hl 0 rfl) ?_
  refine w_get (v := .int (nI mA)) X hW 13 0 Nat.zero_lt_one rfl rfl inG5 6 (by decide) g504 (congrArg (fun z => some (Value.int z)) hs.1) dX5_is_4 ?_
  refine lv_iconst (v := 1) hx hb dX5_is_7 (by decide) ?_
  refine lv_isub hx hb dX5_is_8 ?_
  refine lv_i2l (v := Int32.toInt64 ((nI mA) - 1)) hx hb dX5_is_9 rfl ?_
  refine w_cS1 X hS (m_X5_in l G (Wd G ad nA nK I J) (Int32.toInt64 a) 0 (Int32.toInt64 ((nI mA) - 1)) ) rfl rfl g583 g4 g581 g582 hd_X5_in ⟨Nat.le_of_ble_eq_true rfl, Nat.le_of_ble_eq_true rfl⟩ hW hl.1 rfl (Nat.le_of_ble_eq_true rfl) dX5_is_10 (Nat.zero_le _) (Nat.zero_le _) (fun H locs hW hS => ?_)
  exact w_zret X hr hlk hS (by first | rfl | (simp []; done) | (simp []; rfl)) (k_b_n _) hW dX5_is_13
set_option maxHeartbeats 4000000 in
set_option maxRecDepth 100000 in
theorem m_X5_isAsk (l : Launch) (G : k_G) (ad : Nat → Nat → Nat) (nA nK : Nat) (mA mK : Nat) (E : Nat → Nat) (I : k_I) (J : k_J) (a : Int32) (hs : m_S mA mK E I) : k_Met l yX5_isAsk cX5_isAsk 2 (some FieldType.boolean) { frames := 1, cells := 0, slots := 0, locals := 25 } G [.ref (ad 13 0), .int a] (Wd G ad nA nK I J) (some (.int (k_b (mIs mK a)))) (Wd G ad nA nK I J) 0 0 := by
  refine k_body (by decide) (Nat.le_of_ble_eq_true rfl) ?_
  intro p e s m below meth c ls X hr hlk hnm hW hS hl
  have hx := X.1.1
  have hb := X.1.2.1
  have hG := X.1.2.2.2.2
  have hA24 := hs.2.2.1
  have hK30 := hs.2.2.2.1
  have hl : lv_has ls 2 [(0, .ref (ad 13 0)), (1, .int a)] := hl
  refine lv_iload_n hx hb dX5_isAsk_0 rfl (lv_at hl 1 rfl) ?_
  refine lv_i2l (v := Int32.toInt64 a) hx hb dX5_isAsk_1 rfl ?_
  refine lv_lconst (v := 0) hx hb dX5_isAsk_2 (by decide) ?_
  refine lv_aload_n hx hb dX5_isAsk_3 rfl (lv_at hl 0 rfl) ?_
  refine w_get (v := .int (nI mK)) X hW 13 0 Nat.zero_lt_one rfl rfl inG5 16 (by decide) g514 (congrArg (fun z => some (Value.int z)) hs.2.1) dX5_isAsk_4 ?_
  refine lv_iconst (v := 1) hx hb dX5_isAsk_7 (by decide) ?_
  refine lv_isub hx hb dX5_isAsk_8 ?_
  refine lv_i2l (v := Int32.toInt64 ((nI mK) - 1)) hx hb dX5_isAsk_9 rfl ?_
  refine w_cS1 X hS (m_X5_in l G (Wd G ad nA nK I J) (Int32.toInt64 a) 0 (Int32.toInt64 ((nI mK) - 1)) ) rfl rfl g583 g4 g581 g582 hd_X5_in ⟨Nat.le_of_ble_eq_true rfl, Nat.le_of_ble_eq_true rfl⟩ hW hl.1 rfl (Nat.le_of_ble_eq_true rfl) dX5_isAsk_10 (Nat.zero_le _) (Nat.zero_le _) (fun H locs hW hS => ?_)
  exact w_zret X hr hlk hS (by first | rfl | (simp []; done) | (simp []; rfl)) (k_b_n _) hW dX5_isAsk_13
set_option maxHeartbeats 4000000 in
set_option maxRecDepth 100000 in
theorem m_X5_isPlain (l : Launch) (G : k_G) (ad : Nat → Nat → Nat) (nA nK : Nat) (mA mK : Nat) (E : Nat → Nat) (I : k_I) (J : k_J) (a : Nat) (hs : m_S mA mK E I) (ha : a < mA) : k_Met l yX5_isPlain cX5_isPlain 2 (some FieldType.boolean) { frames := 0, cells := 0, slots := 0, locals := 0 } G [.ref (ad 13 0), .int (nI a)] (Wd G ad nA nK I J) (some (.int (k_b (mPl I a)))) (Wd G ad nA nK I J) 0 0 := by
  refine k_body (by decide) (Nat.le_of_ble_eq_true rfl) ?_
  intro p e s m below meth c ls X hr hlk hnm hW hS hl
  have hx := X.1.1
  have hb := X.1.2.1
  have hG := X.1.2.2.2.2
  have hA24 := hs.2.2.1
  have hK30 := hs.2.2.2.1
  have hl : lv_has ls 2 [(0, .ref (ad 13 0)), (1, .int (nI a))] := hl
  refine lv_aload_n hx hb dX5_isPlain_0 rfl (lv_at hl 0 rfl) ?_
  refine w_get X hW 13 0 Nat.zero_lt_one rfl rfl inG5 7 (by decide) g505 rfl dX5_isPlain_1 ?_
  refine lv_iload_n hx hb dX5_isPlain_4 rfl (lv_at hl 1 rfl) ?_
  refine w_ialdN (i := a) X hW 27 0 Nat.zero_lt_one rfl (by omega) dX5_isPlain_5 ?_
  refine lv_if_ne (tgt := 22) hx hb dX5_isPlain_6 (by decide) (fun c_1 => ?_) (fun c_1 => ?_)
  · skip
    refine lv_iconst (v := 0) hx hb dX5_isPlain_22 (by decide) ?_
    exact w_zret X hr hlk hS (by first | rfl | (simp [mPl, k_b, c_1]; done) | (simp [mPl, k_b, c_1]; rfl)) (k_b_n _) hW dX5_isPlain_23
  · skip
    refine lv_aload_n hx hb dX5_isPlain_9 rfl (lv_at hl 0 rfl) ?_
    refine w_get X hW 13 0 Nat.zero_lt_one rfl rfl inG5 8 (by decide) g506 rfl dX5_isPlain_10 ?_
    refine lv_iload_n hx hb dX5_isPlain_13 rfl (lv_at hl 1 rfl) ?_
    refine w_ialdN (i := a) X hW 28 0 Nat.zero_lt_one rfl (by omega) dX5_isPlain_14 ?_
    refine lv_if_ge (tgt := 22) hx hb dX5_isPlain_15 (by decide) (fun c_2 => ?_) (fun c_2 => ?_)
    · skip
      have c_2' : ¬ I 28 0 a < 0 := Int32.not_lt.mpr c_2
      refine lv_iconst (v := 0) hx hb dX5_isPlain_22 (by decide) ?_
      exact w_zret X hr hlk hS (by first | rfl | (simp [mPl, k_b, c_1, c_2, c_2']; done) | (simp [mPl, k_b, c_1, c_2, c_2']; rfl)) (k_b_n _) hW dX5_isPlain_23
    · skip
      have c_2' : I 28 0 a < 0 := Int32.not_le.mp c_2
      refine lv_iconst (v := 1) hx hb dX5_isPlain_18 (by decide) ?_
      refine lv_goto (tgt := 23) hx hb dX5_isPlain_19 (by decide) ?_
      exact w_zret X hr hlk hS (by first | rfl | (simp [mPl, k_b, c_1, c_2, c_2']; done) | (simp [mPl, k_b, c_1, c_2, c_2']; rfl)) (k_b_n _) hW dX5_isPlain_23
set_option maxHeartbeats 4000000 in
set_option maxRecDepth 100000 in
theorem m_X5_endOf (l : Launch) (G : k_G) (ad : Nat → Nat → Nat) (nA nK : Nat) (mA mK : Nat) (E : Nat → Nat) (I : k_I) (J : k_J) (a : Nat) (hs : m_S mA mK E I) (ha : a < mA) : k_Met l yX5_endOf cX5_endOf 3 (some FieldType.int) { frames := 0, cells := 0, slots := 0, locals := 0 } G [.ref (ad 13 0), .int (nI a)] (Wd G ad nA nK I J) (some (.int (nI (E a)))) (Wd G ad nA nK I J) 0 0 := by
  refine k_body (by decide) (Nat.le_of_ble_eq_true rfl) ?_
  intro p e s m below meth c ls X hr hlk hnm hW hS hl
  have hx := X.1.1
  have hb := X.1.2.1
  have hl : lv_has ls 3 [(0, .ref (ad 13 0)), (1, .int (nI a))] := hl
  obtain ⟨hE, d, hp⟩ := hs.2.2.2.2.1 a ha
  have loop : ∀ (d b : Nat), mPath (I 28 0) d b (E a) → ∀ (H : Heap) (locs : List Loc), Wd G ad nA nK I J H → va_S (k_A G) s.heap H locs → ∀ ls : Array Slot, lv_has ls 3 [(2, .int (nI b)), (0, .ref (ad 13 0)), (1, .int (nI a))] → W p l e { frames := 0, cells := 0, slots := 0, locals := 0 } s m ([.ref (ad 13 0), .int (nI a)] : List Value).toArray below meth c H locs 0 0 (MQ below (k_Q G (some (.int (nI (E a)))) (Wd G ad nA nK I J)) ([.ref (ad 13 0), .int (nI a)] : List Value).toArray s 0 0 (k_A G)) (F0 m 2 ls []) := by
    intro d
    induction d with
    | zero =>
      intro b hp H locs hW hS ls hl
      obtain ⟨e1, h24, hneg⟩ := hp
      refine lv_aload_n hx hb dX5_endOf_2 rfl (lv_at hl 1 rfl) ?_
      refine w_get X hW 13 0 Nat.zero_lt_one rfl rfl inG5 8 (by decide) g506 rfl dX5_endOf_3 ?_
      refine lv_iload_n hx hb dX5_endOf_6 rfl (lv_at hl 0 rfl) ?_
      refine w_ialdN (i := b) X hW 28 0 Nat.zero_lt_one rfl (by omega) dX5_endOf_7 ?_
      refine lv_if_lt (tgt := 21) hx hb dX5_endOf_8 (by decide) (fun _ => ?_) (fun c => absurd hneg c)
      refine lv_iload_n hx hb dX5_endOf_21 rfl (lv_at hl 0 rfl) ?_
      exact w_iret X hr hlk hS (by rw [e1]) hW dX5_endOf_22
    | succ d ih =>
      intro b hp H locs hW hS ls hl
      obtain ⟨h24, hneg, b2, e2, hb24, hp2⟩ := hp
      refine lv_aload_n hx hb dX5_endOf_2 rfl (lv_at hl 1 rfl) ?_
      refine w_get X hW 13 0 Nat.zero_lt_one rfl rfl inG5 8 (by decide) g506 rfl dX5_endOf_3 ?_
      refine lv_iload_n hx hb dX5_endOf_6 rfl (lv_at hl 0 rfl) ?_
      refine w_ialdN (i := b) X hW 28 0 Nat.zero_lt_one rfl (by omega) dX5_endOf_7 ?_
      refine lv_if_lt (tgt := 21) hx hb dX5_endOf_8 (by decide) (fun c => absurd c hneg) (fun _ => ?_)
      refine lv_aload_n hx hb dX5_endOf_11 rfl (lv_at hl 1 rfl) ?_
      refine w_get X hW 13 0 Nat.zero_lt_one rfl rfl inG5 8 (by decide) g506 rfl dX5_endOf_12 ?_
      refine lv_iload_n hx hb dX5_endOf_15 rfl (lv_at hl 0 rfl) ?_
      refine w_ialdN (i := b) X hW 28 0 Nat.zero_lt_one rfl (by omega) dX5_endOf_16 ?_
      rw [e2]
      refine lv_istore_n (lv' := [(2, .int (nI b2)), (0, .ref (ad 13 0)), (1, .int (nI a))]) hx hb dX5_endOf_17 rfl hl (by decide) rfl (fun ls hl => ?_)
      refine lv_goto (tgt := 2) hx hb dX5_endOf_18 (by decide) ?_
      exact ih b2 hp2 H locs hW hS ls hl
  refine lv_iload_n hx hb dX5_endOf_0 rfl (lv_at hl 1 rfl) ?_
  refine lv_istore_n (lv' := [(2, .int (nI a)), (0, .ref (ad 13 0)), (1, .int (nI a))]) hx hb dX5_endOf_1 rfl hl (by decide) rfl (fun ls hl => ?_)
  exact loop d a hp _ _ hW hS ls hl
theorem m_X5_endOf_x (l : Launch) (G : k_G) (ad : Nat → Nat → Nat) (nA nK : Nat) (mA mK : Nat) (E : Nat → Nat) (I : k_I) (J : k_J) (x : Int32) (hs : m_S mA mK E I) (h : ∃ p, p < mA ∧ x = nI p) : k_Met l yX5_endOf cX5_endOf 3 (some FieldType.int) { frames := 0, cells := 0, slots := 0, locals := 0 } G [.ref (ad 13 0), .int x] (Wd G ad nA nK I J) (some (.int (nI (mE E x)))) (Wd G ad nA nK I J) 0 0 := by
  obtain ⟨p, hp, rfl⟩ := h
  have h24 := hs.2.2.1
  rw [mE_n (by omega)]
  exact m_X5_endOf l G ad nA nK mA mK E I J p hs hp

set_option maxHeartbeats 4000000 in
set_option maxRecDepth 100000 in
theorem m_X5_allOf (l : Launch) (G : k_G) (PW : Heap → Prop) (a : Int32) : k_Met l yX5_allOf cX5_allOf 1 (some FieldType.int) { frames := 0, cells := 0, slots := 0, locals := 0 } G [.int a] (PW) (some (.int (mAllOf a))) (PW) 0 0 := by
  refine k_body (by decide) (Nat.le_of_ble_eq_true rfl) ?_
  intro p e s m below meth c ls X hr hlk hnm hW hS hl
  have hx := X.1.1
  have hb := X.1.2.1
  have hG := X.1.2.2.2.2
  have hl : lv_has ls 1 [(0, .int a)] := hl
  refine lv_iload_n hx hb dX5_allOf_0 rfl (lv_at hl 0 rfl) ?_
  refine lv_if_ne (tgt := 10) hx hb dX5_allOf_1 (by decide) (fun c_1 => ?_) (fun c_1 => ?_)
  · skip
    refine lv_iload_n hx hb dX5_allOf_10 rfl (lv_at hl 0 rfl) ?_
    refine lv_iconst (v := 1) hx hb dX5_allOf_11 (by decide) ?_
    refine lv_icmp_ne (tgt := 21) hx hb dX5_allOf_12 (by decide) (fun c_2 => ?_) (fun c_2 => ?_)
    · skip
      refine lv_bipush (v := 15) hx hb dX5_allOf_21 (by decide) ?_
      exact w_iret X hr hlk hS (by first | rfl | (simp [mAllOf, c_1, c_2]; done) | (simp [mAllOf, c_1, c_2]; rfl)) hW dX5_allOf_23
    · skip
      refine lv_sipush (v := 1023) hx hb dX5_allOf_15 (by decide) ?_
      refine lv_goto (tgt := 23) hx hb dX5_allOf_18 (by decide) ?_
      exact w_iret X hr hlk hS (by first | rfl | (simp [mAllOf, c_1, c_2]; done) | (subst c_2; simp [mAllOf, c_1]; done) | (simp [mAllOf, c_1, c_2]; rfl)) hW dX5_allOf_23
  · skip
    refine lv_sipush (v := 255) hx hb dX5_allOf_4 (by decide) ?_
    refine lv_goto (tgt := 23) hx hb dX5_allOf_7 (by decide) ?_
    exact w_iret X hr hlk hS (by first | rfl | (simp [mAllOf, c_1]; done) | (subst c_1; simp [mAllOf]; done) | (simp [mAllOf, c_1]; rfl)) hW dX5_allOf_23
set_option maxHeartbeats 4000000 in
set_option maxRecDepth 100000 in
theorem m_X5_folded (l : Launch) (G : k_G) (ad : Nat → Nat → Nat) (nA nK : Nat) (mA mK : Nat) (E : Nat → Nat) (I : k_I) (J : k_J) (x : Int64) : k_Met l yX5_folded cX5_folded 6 (some FieldType.long) { frames := 0, cells := 0, slots := 0, locals := 0 } G [.ref (ad 13 0), .long (x)] (Wd G ad nA nK I J) (some (.long (mFold (I 20 0) x))) (Wd G ad nA nK I J) 0 0 := by
  refine k_body (by decide) (Nat.le_of_ble_eq_true rfl) ?_
  intro p e s m below meth c ls X hr hlk hnm hW hS hl
  have hx := X.1.1
  have hb := X.1.2.1
  have hG := X.1.2.2.2.2
  have hl : lv_has ls 6 [(0, .ref (ad 13 0)), (1, .long (x))] := hl
  refine lv_lconst (v := 0) hx hb dX5_folded_0 (by decide) ?_
  refine lv_lstore_n (lv' := [(3, .long (0)), (0, .ref (ad 13 0)), (1, .long (x))]) hx hb dX5_folded_1 rfl hl (by decide) rfl (fun ls hl => ?_)
  refine lv_iconst (v := 0) hx hb dX5_folded_2 (by decide) ?_
  refine lv_istore (lv' := [(5, .int 0), (3, .long (0)), (0, .ref (ad 13 0)), (1, .long (x))]) hx hb dX5_folded_3 hl (by decide) rfl (fun ls hl => ?_)
  have loop5 : ∀ (d j : Nat) (r : Int64), j + d = 40 → (kLoop (mFoldStep (I 20 0) x) d j r = mFold (I 20 0) x) → ∀ (H : Heap) (locs : List Loc), Wd G ad nA nK I J H → va_S (k_A G) s.heap H locs → ∀ ls : Array Slot, lv_has ls 6 [(5, .int (nI j)), (3, .long (r)), (0, .ref (ad 13 0)), (1, .long (x))] → W p l e { frames := 0, cells := 0, slots := 0, locals := 0 } s m ([.ref (ad 13 0), .long (x)] : List Value).toArray below meth c H locs 0 0 (MQ below (k_Q G (some (.long (mFold (I 20 0) x))) (Wd G ad nA nK I J)) ([.ref (ad 13 0), .long (x)] : List Value).toArray s 0 0 (k_A G)) (F0 m 5 ls []) := by
    intro d
    induction d with
    | zero =>
      intro j r hi5 hz5  H locs hW hS ls hl
      refine lv_iload hx hb dX5_folded_5 (lv_at hl 0 rfl) ?_
      refine lv_bipush (v := 40) hx hb dX5_folded_7 (by decide) ?_
      refine lv_icmp_ge (tgt := 35) hx hb dX5_folded_9 (by decide) (fun _ => ?_) (fun c_1 => absurd (nI_le (a := 40) (b := j) (by omega) (by omega)) c_1)
      refine lv_lload_n hx hb dX5_folded_35 rfl (lv_at hl 1 rfl) ?_
      exact w_lret X hr hlk hS (by first | exact hz5 | (rw [← hz5]; simp [kLoop, mFoldStep]; done) | (simp [← hz5, kLoop, mFoldStep]; done) | (rw [← hz5]; simp only [kLoop, mFoldStep, eq_self, if_true, if_false, Bool.false_eq_true, decide_true, decide_false, Bool.not_true, Bool.not_false, Bool.false_or, Bool.true_or, Bool.and_true, Bool.true_and, Bool.false_and, Bool.and_false, Bool.or_true, Bool.or_false]; done) | (simp [kLoop, mFoldStep]; done)) hW dX5_folded_36
    | succ d ih =>
      intro j r hi5 hz5  H locs hW hS ls hl
      have hlt5 : j < 40 := by omega
      have ih5 := ih
      refine lv_iload hx hb dX5_folded_5 (lv_at hl 0 rfl) ?_
      refine lv_bipush (v := 40) hx hb dX5_folded_7 (by decide) ?_
      refine lv_icmp_ge (tgt := 35) hx hb dX5_folded_9 (by decide) (fun c_2 => absurd c_2 (nI_ge (a := j) (b := 40) (by omega) (by omega))) (fun _ => ?_)
      refine lv_lload_n hx hb dX5_folded_12 rfl (lv_at hl 1 rfl) ?_
      refine lv_lload_n hx hb dX5_folded_13 rfl (lv_at hl 3 rfl) ?_
      refine lv_iload hx hb dX5_folded_14 (lv_at hl 0 rfl) ?_
      refine lv_lshr (v := x >>> (Int32.toInt64 (nI j) &&& 63)) hx hb dX5_folded_16 rfl ?_
      refine lv_lconst (v := 1) hx hb dX5_folded_17 (by decide) ?_
      refine lv_land hx hb dX5_folded_18 ?_
      refine lv_aload_n hx hb dX5_folded_19 rfl (lv_at hl 2 rfl) ?_
      refine w_get X hW 13 0 Nat.zero_lt_one rfl rfl inG5 0 (by decide) g498 rfl dX5_folded_20 ?_
      refine lv_iload hx hb dX5_folded_23 (lv_at hl 0 rfl) ?_
      refine w_ialdN (i := j) X hW 20 0 Nat.zero_lt_one rfl (by omega) dX5_folded_25 ?_
      refine lv_lshl (v := ((x >>> (Int32.toInt64 (nI j) &&& 63)) &&& 1) <<< (Int32.toInt64 (I 20 0 j) &&& 63)) hx hb dX5_folded_26 rfl ?_
      refine lv_lor hx hb dX5_folded_27 ?_
      refine lv_lstore_n (lv' := [(3, .long (r ||| (((x >>> (Int32.toInt64 (nI j) &&& 63)) &&& 1) <<< (Int32.toInt64 (I 20 0 j) &&& 63)))), (5, .int (nI j)), (0, .ref (ad 13 0)), (1, .long (x))]) hx hb dX5_folded_28 rfl hl (by decide) rfl (fun ls hl => ?_)
      refine lv_iinc (v := nI (j + 1)) (lv' := [(5, .int (nI (j + 1))), (3, .long (r ||| (((x >>> (Int32.toInt64 (nI j) &&& 63)) &&& 1) <<< (Int32.toInt64 (I 20 0 j) &&& 63)))), (0, .ref (ad 13 0)), (1, .long (x))]) hx hb dX5_folded_29 hl (k := 1) rfl (nI_1 j) (by decide) rfl (fun ls hl => ?_)
      refine lv_goto (tgt := 5) hx hb dX5_folded_32 (by decide) ?_
      exact ih5 (j + 1) (r ||| (((x >>> (Int32.toInt64 (nI j) &&& 63)) &&& 1) <<< (Int32.toInt64 (I 20 0 j) &&& 63))) (by omega) (by first | exact hz5 | (rw [← hz5]; simp [kLoop, mFoldStep]; done) | (simp [← hz5, kLoop, mFoldStep]; done) | (rw [← hz5]; simp only [kLoop, mFoldStep, eq_self, if_true, if_false, Bool.false_eq_true, decide_true, decide_false, Bool.not_true, Bool.not_false, Bool.false_or, Bool.true_or, Bool.and_true, Bool.true_and, Bool.false_and, Bool.and_false, Bool.or_true, Bool.or_false]; done)) _ _ hW hS ls (lv_sub hl [0, 1, 2, 3] rfl)
  exact loop5 40 0 0 (by omega) rfl _ _ hW hS ls (lv_sub hl [0, 1, 2, 3] rfl)
set_option maxHeartbeats 4000000 in
set_option maxRecDepth 100000 in
theorem m_X5_many (l : Launch) (G : k_G) (PW : Heap → Prop) (x : Int64) : k_Met l yX5_many cX5_many 4 (some FieldType.int) { frames := 0, cells := 0, slots := 0, locals := 0 } G [.long (x)] (PW) (some (.int (mMany x))) (PW) 0 0 := by
  refine k_body (by decide) (Nat.le_of_ble_eq_true rfl) ?_
  intro p e s m below meth c ls X hr hlk hnm hW hS hl
  have hx := X.1.1
  have hb := X.1.2.1
  have hG := X.1.2.2.2.2
  have hl : lv_has ls 4 [(0, .long (x))] := hl
  refine lv_iconst (v := 0) hx hb dX5_many_0 (by decide) ?_
  refine lv_istore_n (lv' := [(2, .int 0), (0, .long (x))]) hx hb dX5_many_1 rfl hl (by decide) rfl (fun ls hl => ?_)
  refine lv_iconst (v := 0) hx hb dX5_many_2 (by decide) ?_
  refine lv_istore_n (lv' := [(3, .int 0), (2, .int 0), (0, .long (x))]) hx hb dX5_many_3 rfl hl (by decide) rfl (fun ls hl => ?_)
  have loop4 : ∀ (d j : Nat) (n : Int32), j + d = 40 → (kLoop (fun w n => n + Int64.toInt32 ((x >>> (Int32.toInt64 (nI w) &&& 63)) &&& 1)) d j n = mMany x) → ∀ (H : Heap) (locs : List Loc), PW H → va_S (k_A G) s.heap H locs → ∀ ls : Array Slot, lv_has ls 4 [(3, .int (nI j)), (2, .int n), (0, .long (x))] → W p l e { frames := 0, cells := 0, slots := 0, locals := 0 } s m ([.long (x)] : List Value).toArray below meth c H locs 0 0 (MQ below (k_Q G (some (.int (mMany x))) (PW)) ([.long (x)] : List Value).toArray s 0 0 (k_A G)) (F0 m 4 ls []) := by
    intro d
    induction d with
    | zero =>
      intro j n hi4 hz4  H locs hW hS ls hl
      refine lv_iload_n hx hb dX5_many_4 rfl (lv_at hl 0 rfl) ?_
      refine lv_bipush (v := 40) hx hb dX5_many_5 (by decide) ?_
      refine lv_icmp_ge (tgt := 25) hx hb dX5_many_7 (by decide) (fun _ => ?_) (fun c_1 => absurd (nI_le (a := 40) (b := j) (by omega) (by omega)) c_1)
      refine lv_iload_n hx hb dX5_many_25 rfl (lv_at hl 1 rfl) ?_
      exact w_iret X hr hlk hS (by first | exact hz4 | (rw [← hz4]; simp [kLoop]; done) | (simp [← hz4, kLoop]; done) | (rw [← hz4]; simp only [kLoop, eq_self, if_true, if_false, Bool.false_eq_true, decide_true, decide_false, Bool.not_true, Bool.not_false, Bool.false_or, Bool.true_or, Bool.and_true, Bool.true_and, Bool.false_and, Bool.and_false, Bool.or_true, Bool.or_false]; done) | (simp [kLoop]; done)) hW dX5_many_26
    | succ d ih =>
      intro j n hi4 hz4  H locs hW hS ls hl
      have hlt4 : j < 40 := by omega
      have ih4 := ih
      refine lv_iload_n hx hb dX5_many_4 rfl (lv_at hl 0 rfl) ?_
      refine lv_bipush (v := 40) hx hb dX5_many_5 (by decide) ?_
      refine lv_icmp_ge (tgt := 25) hx hb dX5_many_7 (by decide) (fun c_2 => absurd c_2 (nI_ge (a := j) (b := 40) (by omega) (by omega))) (fun _ => ?_)
      refine lv_iload_n hx hb dX5_many_10 rfl (lv_at hl 1 rfl) ?_
      refine lv_lload_n hx hb dX5_many_11 rfl (lv_at hl 2 rfl) ?_
      refine lv_iload_n hx hb dX5_many_12 rfl (lv_at hl 0 rfl) ?_
      refine lv_lshr (v := x >>> (Int32.toInt64 (nI j) &&& 63)) hx hb dX5_many_13 rfl ?_
      refine lv_lconst (v := 1) hx hb dX5_many_14 (by decide) ?_
      refine lv_land hx hb dX5_many_15 ?_
      refine lv_l2i (v := Int64.toInt32 ((x >>> (Int32.toInt64 (nI j) &&& 63)) &&& 1)) hx hb dX5_many_16 rfl ?_
      refine lv_iadd hx hb dX5_many_17 ?_
      refine lv_istore_n (lv' := [(2, .int (n + (Int64.toInt32 ((x >>> (Int32.toInt64 (nI j) &&& 63)) &&& 1)))), (3, .int (nI j)), (0, .long (x))]) hx hb dX5_many_18 rfl hl (by decide) rfl (fun ls hl => ?_)
      refine lv_iinc (v := nI (j + 1)) (lv' := [(3, .int (nI (j + 1))), (2, .int (n + (Int64.toInt32 ((x >>> (Int32.toInt64 (nI j) &&& 63)) &&& 1)))), (0, .long (x))]) hx hb dX5_many_19 hl (k := 1) rfl (nI_1 j) (by decide) rfl (fun ls hl => ?_)
      refine lv_goto (tgt := 4) hx hb dX5_many_22 (by decide) ?_
      exact ih4 (j + 1) (n + (Int64.toInt32 ((x >>> (Int32.toInt64 (nI j) &&& 63)) &&& 1))) (by omega) (by first | exact hz4 | (rw [← hz4]; simp [kLoop]; done) | (simp [← hz4, kLoop]; done) | (rw [← hz4]; simp only [kLoop, eq_self, if_true, if_false, Bool.false_eq_true, decide_true, decide_false, Bool.not_true, Bool.not_false, Bool.false_or, Bool.true_or, Bool.and_true, Bool.true_and, Bool.false_and, Bool.and_false, Bool.or_true, Bool.or_false]; done)) _ _ hW hS ls (lv_sub hl [0, 1, 2] rfl)
  exact loop4 40 0 0 (by omega) rfl _ _ hW hS ls (lv_sub hl [0, 1, 2] rfl)
set_option maxHeartbeats 4000000 in
set_option maxRecDepth 100000 in
theorem m_X5_far (l : Launch) (G : k_G) (ad : Nat → Nat → Nat) (nA nK : Nat) (mA mK : Nat) (E : Nat → Nat) (I : k_I) (J : k_J) (x : Int64) (y : Int64) : k_Met l yX5_far cX5_far 5 (some FieldType.int) { frames := 1, cells := 0, slots := 0, locals := 25 } G [.ref (ad 13 0), .long (x), .long (y)] (Wd G ad nA nK I J) (some (.int (mFar I x y))) (Wd G ad nA nK I J) 0 0 := by
  refine k_body (by decide) (Nat.le_of_ble_eq_true rfl) ?_
  intro p e s m below meth c ls X hr hlk hnm hW hS hl
  have hx := X.1.1
  have hb := X.1.2.1
  have hG := X.1.2.2.2.2
  have hl : lv_has ls 5 [(0, .ref (ad 13 0)), (1, .long (x)), (3, .long (y))] := hl
  refine lv_aload_n hx hb dX5_far_0 rfl (lv_at hl 0 rfl) ?_
  refine lv_lload_n hx hb dX5_far_1 rfl (lv_at hl 1 rfl) ?_
  refine w_cV1 X hS (m_X5_folded l G ad nA nK mA mK E I J x ) rfl rfl g706 g4 g703 g705 p41 hd_X5_folded ⟨Nat.le_of_ble_eq_true rfl, Nat.le_of_ble_eq_true rfl⟩ (k_rec X hW 13 0 Nat.zero_lt_one rfl rfl) hW hl.1 rfl (Nat.le_of_ble_eq_true rfl) dX5_far_2 (Nat.zero_le _) (Nat.zero_le _) (fun H locs hW hS => ?_)
  refine lv_aload_n hx hb dX5_far_5 rfl (lv_at hl 0 rfl) ?_
  refine lv_lload_n hx hb dX5_far_6 rfl (lv_at hl 2 rfl) ?_
  refine w_cV1 X hS (m_X5_folded l G ad nA nK mA mK E I J y ) rfl rfl g706 g4 g703 g705 p41 hd_X5_folded ⟨Nat.le_of_ble_eq_true rfl, Nat.le_of_ble_eq_true rfl⟩ (k_rec X hW 13 0 Nat.zero_lt_one rfl rfl) hW hl.1 rfl (Nat.le_of_ble_eq_true rfl) dX5_far_7 (Nat.zero_le _) (Nat.zero_le _) (fun H locs hW hS => ?_)
  refine lv_lxor hx hb dX5_far_10 ?_
  refine w_cS1 X hS (m_X5_many l G (Wd G ad nA nK I J) ((mFold (I 20 0) x) ^^^ (mFold (I 20 0) y)) ) rfl rfl g709 g4 g707 g708 hd_X5_many ⟨Nat.le_of_ble_eq_true rfl, Nat.le_of_ble_eq_true rfl⟩ hW hl.1 rfl (Nat.le_of_ble_eq_true rfl) dX5_far_11 (Nat.zero_le _) (Nat.zero_le _) (fun H locs hW hS => ?_)
  refine lv_topi (fun x1 ex1 => ?_)
  exact w_iret X hr hlk hS (by first | rfl | (simp [ex1]; done) | (simp [ex1]; rfl)) hW dX5_far_14
set_option maxHeartbeats 4000000 in
set_option maxRecDepth 100000 in
theorem m_X5_isWithin (l : Launch) (G : k_G) (ad : Nat → Nat → Nat) (nA nK : Nat) (mA mK : Nat) (E : Nat → Nat) (I : k_I) (J : k_J) (a : Nat) (b : Nat) (ha : a < 24) (hb : b < 24) : k_Met l yX5_isWithin cX5_isWithin 5 (some FieldType.boolean) { frames := 0, cells := 0, slots := 0, locals := 0 } G [.ref (ad 13 0), .int (nI a), .int (nI b)] (Wd G ad nA nK I J) (some (.int (k_b (mWith I a b)))) (Wd G ad nA nK I J) 0 0 := by
  refine k_body (by decide) (Nat.le_of_ble_eq_true rfl) ?_
  intro p e s m below meth c ls X hr hlk hnm hW hS hl
  have hx := X.1.1
  have hb := X.1.2.1
  have hG := X.1.2.2.2.2
  have hl : lv_has ls 5 [(0, .ref (ad 13 0)), (1, .int (nI a)), (2, .int (nI b))] := hl
  refine lv_iconst (v := 1) hx hb dX5_isWithin_0 (by decide) ?_
  refine lv_istore_n (lv' := [(3, .int 1), (0, .ref (ad 13 0)), (1, .int (nI a)), (2, .int (nI b))]) hx hb dX5_isWithin_1 rfl hl (by decide) rfl (fun ls hl => ?_)
  refine lv_iconst (v := 0) hx hb dX5_isWithin_2 (by decide) ?_
  refine lv_istore (lv' := [(4, .int 0), (3, .int 1), (0, .ref (ad 13 0)), (1, .int (nI a)), (2, .int (nI b))]) hx hb dX5_isWithin_3 hl (by decide) rfl (fun ls hl => ?_)
  have loop5 : ∀ (d j : Nat) (r : Bool), j + d = 3 → (kLoop (mWith1 I a b) d j r = mWith I a b) → ∀ (H : Heap) (locs : List Loc), Wd G ad nA nK I J H → va_S (k_A G) s.heap H locs → ∀ ls : Array Slot, lv_has ls 5 [(4, .int (nI j)), (3, .int (k_b r)), (0, .ref (ad 13 0)), (1, .int (nI a)), (2, .int (nI b))] → W p l e { frames := 0, cells := 0, slots := 0, locals := 0 } s m ([.ref (ad 13 0), .int (nI a), .int (nI b)] : List Value).toArray below meth c H locs 0 0 (MQ below (k_Q G (some (.int (k_b (mWith I a b)))) (Wd G ad nA nK I J)) ([.ref (ad 13 0), .int (nI a), .int (nI b)] : List Value).toArray s 0 0 (k_A G)) (F0 m 5 ls []) := by
    intro d
    induction d with
    | zero =>
      intro j r hi5 hz5  H locs hW hS ls hl
      refine lv_iload hx hb dX5_isWithin_5 (lv_at hl 0 rfl) ?_
      refine lv_iconst (v := 3) hx hb dX5_isWithin_7 (by decide) ?_
      refine lv_icmp_ge (tgt := 55) hx hb dX5_isWithin_8 (by decide) (fun _ => ?_) (fun c_1 => absurd (nI_le (a := 3) (b := j) (by omega) (by omega)) c_1)
      refine lv_iload_n hx hb dX5_isWithin_55 rfl (lv_at hl 1 rfl) ?_
      exact w_zret X hr hlk hS (by first | exact hz5 | (rw [← hz5]; simp [kLoop, mWith1]; done) | (simp [← hz5, kLoop, mWith1]; done) | (rw [← hz5]; simp only [kLoop, mWith1, eq_self, if_true, if_false, Bool.false_eq_true, decide_true, decide_false, Bool.not_true, Bool.not_false, Bool.false_or, Bool.true_or, Bool.and_true, Bool.true_and, Bool.false_and, Bool.and_false, Bool.or_true, Bool.or_false]; done) | (simp [kLoop, mWith1]; done)) (k_b_n _) hW dX5_isWithin_56
    | succ d ih =>
      intro j r hi5 hz5  H locs hW hS ls hl
      have hlt5 : j < 3 := by omega
      have ih5 := ih
      refine lv_iload hx hb dX5_isWithin_5 (lv_at hl 0 rfl) ?_
      refine lv_iconst (v := 3) hx hb dX5_isWithin_7 (by decide) ?_
      refine lv_icmp_ge (tgt := 55) hx hb dX5_isWithin_8 (by decide) (fun c_2 => absurd c_2 (nI_ge (a := j) (b := 3) (by omega) (by omega))) (fun _ => ?_)
      refine lv_iload_n hx hb dX5_isWithin_11 rfl (lv_at hl 1 rfl) ?_
      refine lb_if_eq (tgt := 47) hx hb dX5_isWithin_12 (by decide) (fun c_3 => ?_) (fun c_3 => ?_)
      · skip
        refine lv_iconst (v := 0) hx hb dX5_isWithin_47 (by decide) ?_
        refine lv_istore_n (lv' := [(3, .int 0), (4, .int (nI j)), (0, .ref (ad 13 0)), (1, .int (nI a)), (2, .int (nI b))]) hx hb dX5_isWithin_48 rfl hl (by decide) rfl (fun ls hl => ?_)
        refine lv_iinc (v := nI (j + 1)) (lv' := [(4, .int (nI (j + 1))), (3, .int 0), (0, .ref (ad 13 0)), (1, .int (nI a)), (2, .int (nI b))]) hx hb dX5_isWithin_49 hl (k := 1) rfl (nI_1 j) (by decide) rfl (fun ls hl => ?_)
        refine lv_goto (tgt := 5) hx hb dX5_isWithin_52 (by decide) ?_
        exact ih5 (j + 1) false (by omega) (by first | exact hz5 | (rw [← hz5]; simp [kLoop, mWith1, c_3]; done) | (simp [← hz5, kLoop, mWith1, c_3]; done) | (rw [← hz5]; simp only [kLoop, mWith1, c_3, eq_self, if_true, if_false, Bool.false_eq_true, decide_true, decide_false, Bool.not_true, Bool.not_false, Bool.false_or, Bool.true_or, Bool.and_true, Bool.true_and, Bool.false_and, Bool.and_false, Bool.or_true, Bool.or_false]; done)) _ _ hW hS ls (lv_sub hl [0, 1, 2, 3, 4] rfl)
      · skip
        refine lv_aload_n hx hb dX5_isWithin_15 rfl (lv_at hl 2 rfl) ?_
        refine w_get X hW 13 0 Nat.zero_lt_one rfl rfl inG5 11 (by decide) g509 rfl dX5_isWithin_16 ?_
        refine lv_iconst (v := 3) hx hb dX5_isWithin_19 (by decide) ?_
        refine lv_iload_n hx hb dX5_isWithin_20 rfl (lv_at hl 3 rfl) ?_
        refine lw_imulN (a := 3) (b := a) hx hb dX5_isWithin_21 ?_
        refine lv_iload hx hb dX5_isWithin_22 (lv_at hl 0 rfl) ?_
        refine lw_iaddN (a := 3 * a) (b := j) hx hb dX5_isWithin_24 ?_
        refine w_ialdN (i := 3 * a + j) X hW 31 0 Nat.zero_lt_one rfl (by omega) dX5_isWithin_25 ?_
        refine lv_aload_n hx hb dX5_isWithin_26 rfl (lv_at hl 2 rfl) ?_
        refine w_get X hW 13 0 Nat.zero_lt_one rfl rfl inG5 11 (by decide) g509 rfl dX5_isWithin_27 ?_
        refine lv_iconst (v := 3) hx hb dX5_isWithin_30 (by decide) ?_
        refine lv_iload_n hx hb dX5_isWithin_31 rfl (lv_at hl 4 rfl) ?_
        refine lw_imulN (a := 3) (b := b) hx hb dX5_isWithin_32 ?_
        refine lv_iload hx hb dX5_isWithin_33 (lv_at hl 0 rfl) ?_
        refine lw_iaddN (a := 3 * b) (b := j) hx hb dX5_isWithin_35 ?_
        refine w_ialdN (i := 3 * b + j) X hW 31 0 Nat.zero_lt_one rfl (by omega) dX5_isWithin_36 ?_
        refine lv_iconst (v := (-1)) hx hb dX5_isWithin_37 (by decide) ?_
        refine lv_ixor hx hb dX5_isWithin_38 ?_
        refine lv_iand hx hb dX5_isWithin_39 ?_
        refine lv_if_ne (tgt := 47) hx hb dX5_isWithin_40 (by decide) (fun c_4 => ?_) (fun c_4 => ?_)
        · skip
          refine lv_iconst (v := 0) hx hb dX5_isWithin_47 (by decide) ?_
          refine lv_istore_n (lv' := [(3, .int 0), (4, .int (nI j)), (0, .ref (ad 13 0)), (1, .int (nI a)), (2, .int (nI b))]) hx hb dX5_isWithin_48 rfl hl (by decide) rfl (fun ls hl => ?_)
          refine lv_iinc (v := nI (j + 1)) (lv' := [(4, .int (nI (j + 1))), (3, .int 0), (0, .ref (ad 13 0)), (1, .int (nI a)), (2, .int (nI b))]) hx hb dX5_isWithin_49 hl (k := 1) rfl (nI_1 j) (by decide) rfl (fun ls hl => ?_)
          refine lv_goto (tgt := 5) hx hb dX5_isWithin_52 (by decide) ?_
          exact ih5 (j + 1) false (by omega) (by first | exact hz5 | (rw [← hz5]; simp [kLoop, mWith1, c_3, c_4]; done) | (simp [← hz5, kLoop, mWith1, c_3, c_4]; done) | (rw [← hz5]; simp only [kLoop, mWith1, c_3, c_4, eq_self, if_true, if_false, Bool.false_eq_true, decide_true, decide_false, Bool.not_true, Bool.not_false, Bool.false_or, Bool.true_or, Bool.and_true, Bool.true_and, Bool.false_and, Bool.and_false, Bool.or_true, Bool.or_false]; done)) _ _ hW hS ls (lv_sub hl [0, 1, 2, 3, 4] rfl)
        · skip
          refine lv_iconst (v := 1) hx hb dX5_isWithin_43 (by decide) ?_
          refine lv_goto (tgt := 48) hx hb dX5_isWithin_44 (by decide) ?_
          refine lv_istore_n (lv' := [(3, .int 1), (4, .int (nI j)), (0, .ref (ad 13 0)), (1, .int (nI a)), (2, .int (nI b))]) hx hb dX5_isWithin_48 rfl hl (by decide) rfl (fun ls hl => ?_)
          refine lv_iinc (v := nI (j + 1)) (lv' := [(4, .int (nI (j + 1))), (3, .int 1), (0, .ref (ad 13 0)), (1, .int (nI a)), (2, .int (nI b))]) hx hb dX5_isWithin_49 hl (k := 1) rfl (nI_1 j) (by decide) rfl (fun ls hl => ?_)
          refine lv_goto (tgt := 5) hx hb dX5_isWithin_52 (by decide) ?_
          exact ih5 (j + 1) true (by omega) (by first | exact hz5 | (rw [← hz5]; simp [kLoop, mWith1, c_3, c_4]; done) | (simp [← hz5, kLoop, mWith1, c_3, c_4]; done) | (rw [← hz5]; simp only [kLoop, mWith1, c_3, c_4, eq_self, if_true, if_false, Bool.false_eq_true, decide_true, decide_false, Bool.not_true, Bool.not_false, Bool.false_or, Bool.true_or, Bool.and_true, Bool.true_and, Bool.false_and, Bool.and_false, Bool.or_true, Bool.or_false]; done)) _ _ hW hS ls (lv_sub hl [0, 1, 2, 3, 4] rfl)
  exact loop5 3 0 true (by omega) rfl _ _ hW hS ls (lv_sub hl [0, 1, 2, 3, 4] rfl)
set_option maxHeartbeats 4000000 in
set_option maxRecDepth 100000 in
theorem m_X5_partMany (l : Launch) (G : k_G) (ad : Nat → Nat → Nat) (nA nK : Nat) (mA mK : Nat) (E : Nat → Nat) (I : k_I) (J : k_J) (a : Nat) (ha : a < 24) : k_Met l yX5_partMany cX5_partMany 4 (some FieldType.int) { frames := 0, cells := 0, slots := 0, locals := 0 } G [.ref (ad 13 0), .int (nI a)] (Wd G ad nA nK I J) (some (.int (mPartN I a))) (Wd G ad nA nK I J) 0 0 := by
  refine k_body (by decide) (Nat.le_of_ble_eq_true rfl) ?_
  intro p e s m below meth c ls X hr hlk hnm hW hS hl
  have hx := X.1.1
  have hb := X.1.2.1
  have hG := X.1.2.2.2.2
  have hl : lv_has ls 4 [(0, .ref (ad 13 0)), (1, .int (nI a))] := hl
  refine lv_iconst (v := 0) hx hb dX5_partMany_0 (by decide) ?_
  refine lv_istore_n (lv' := [(2, .int 0), (0, .ref (ad 13 0)), (1, .int (nI a))]) hx hb dX5_partMany_1 rfl hl (by decide) rfl (fun ls hl => ?_)
  refine lv_iconst (v := 0) hx hb dX5_partMany_2 (by decide) ?_
  refine lv_istore_n (lv' := [(3, .int 0), (2, .int 0), (0, .ref (ad 13 0)), (1, .int (nI a))]) hx hb dX5_partMany_3 rfl hl (by decide) rfl (fun ls hl => ?_)
  have loop4 : ∀ (d j : Nat) (n : Int32), j + d = 4 → (kLoop (fun k n => n + (if I 35 0 (4 * a + k) < 0 then 0 else 1)) d j n = mPartN I a) → ∀ (H : Heap) (locs : List Loc), Wd G ad nA nK I J H → va_S (k_A G) s.heap H locs → ∀ ls : Array Slot, lv_has ls 4 [(3, .int (nI j)), (2, .int n), (0, .ref (ad 13 0)), (1, .int (nI a))] → W p l e { frames := 0, cells := 0, slots := 0, locals := 0 } s m ([.ref (ad 13 0), .int (nI a)] : List Value).toArray below meth c H locs 0 0 (MQ below (k_Q G (some (.int (mPartN I a))) (Wd G ad nA nK I J)) ([.ref (ad 13 0), .int (nI a)] : List Value).toArray s 0 0 (k_A G)) (F0 m 4 ls []) := by
    intro d
    induction d with
    | zero =>
      intro j n hi4 hz4  H locs hW hS ls hl
      refine lv_iload_n hx hb dX5_partMany_4 rfl (lv_at hl 0 rfl) ?_
      refine lv_iconst (v := 4) hx hb dX5_partMany_5 (by decide) ?_
      refine lv_icmp_ge (tgt := 36) hx hb dX5_partMany_6 (by decide) (fun _ => ?_) (fun c_1 => absurd (nI_le (a := 4) (b := j) (by omega) (by omega)) c_1)
      refine lv_iload_n hx hb dX5_partMany_36 rfl (lv_at hl 1 rfl) ?_
      exact w_iret X hr hlk hS (by first | exact hz4 | (rw [← hz4]; simp [kLoop]; done) | (simp [← hz4, kLoop]; done) | (rw [← hz4]; simp only [kLoop, eq_self, if_true, if_false, Bool.false_eq_true, decide_true, decide_false, Bool.not_true, Bool.not_false, Bool.false_or, Bool.true_or, Bool.and_true, Bool.true_and, Bool.false_and, Bool.and_false, Bool.or_true, Bool.or_false]; done) | (simp [kLoop]; done)) hW dX5_partMany_37
    | succ d ih =>
      intro j n hi4 hz4  H locs hW hS ls hl
      have hlt4 : j < 4 := by omega
      have ih4 := ih
      refine lv_iload_n hx hb dX5_partMany_4 rfl (lv_at hl 0 rfl) ?_
      refine lv_iconst (v := 4) hx hb dX5_partMany_5 (by decide) ?_
      refine lv_icmp_ge (tgt := 36) hx hb dX5_partMany_6 (by decide) (fun c_2 => absurd c_2 (nI_ge (a := j) (b := 4) (by omega) (by omega))) (fun _ => ?_)
      refine lv_iload_n hx hb dX5_partMany_9 rfl (lv_at hl 1 rfl) ?_
      refine lv_aload_n hx hb dX5_partMany_10 rfl (lv_at hl 2 rfl) ?_
      refine w_get X hW 13 0 Nat.zero_lt_one rfl rfl inG5 15 (by decide) g513 rfl dX5_partMany_11 ?_
      refine lv_iconst (v := 4) hx hb dX5_partMany_14 (by decide) ?_
      refine lv_iload_n hx hb dX5_partMany_15 rfl (lv_at hl 3 rfl) ?_
      refine lw_imulN (a := 4) (b := a) hx hb dX5_partMany_16 ?_
      refine lv_iload_n hx hb dX5_partMany_17 rfl (lv_at hl 0 rfl) ?_
      refine lw_iaddN (a := 4 * a) (b := j) hx hb dX5_partMany_18 ?_
      refine w_ialdN (i := 4 * a + j) X hW 35 0 Nat.zero_lt_one rfl (by omega) dX5_partMany_19 ?_
      refine lv_if_lt (tgt := 27) hx hb dX5_partMany_20 (by decide) (fun c_3 => ?_) (fun c_3 => ?_)
      · skip
        refine lv_iconst (v := 0) hx hb dX5_partMany_27 (by decide) ?_
        refine lv_iadd hx hb dX5_partMany_28 ?_
        refine lv_istore_n (lv' := [(2, .int (n + 0)), (3, .int (nI j)), (0, .ref (ad 13 0)), (1, .int (nI a))]) hx hb dX5_partMany_29 rfl hl (by decide) rfl (fun ls hl => ?_)
        refine lv_iinc (v := nI (j + 1)) (lv' := [(3, .int (nI (j + 1))), (2, .int (n + 0)), (0, .ref (ad 13 0)), (1, .int (nI a))]) hx hb dX5_partMany_30 hl (k := 1) rfl (nI_1 j) (by decide) rfl (fun ls hl => ?_)
        refine lv_goto (tgt := 4) hx hb dX5_partMany_33 (by decide) ?_
        exact ih4 (j + 1) (n + 0) (by omega) (by first | exact hz4 | (rw [← hz4]; simp [kLoop, c_3]; done) | (simp [← hz4, kLoop, c_3]; done) | (rw [← hz4]; simp only [kLoop, c_3, eq_self, if_true, if_false, Bool.false_eq_true, decide_true, decide_false, Bool.not_true, Bool.not_false, Bool.false_or, Bool.true_or, Bool.and_true, Bool.true_and, Bool.false_and, Bool.and_false, Bool.or_true, Bool.or_false]; done)) _ _ hW hS ls (lv_sub hl [0, 1, 2, 3] rfl)
      · skip
        refine lv_iconst (v := 1) hx hb dX5_partMany_23 (by decide) ?_
        refine lv_goto (tgt := 28) hx hb dX5_partMany_24 (by decide) ?_
        refine lv_iadd hx hb dX5_partMany_28 ?_
        refine lv_istore_n (lv' := [(2, .int (n + 1)), (3, .int (nI j)), (0, .ref (ad 13 0)), (1, .int (nI a))]) hx hb dX5_partMany_29 rfl hl (by decide) rfl (fun ls hl => ?_)
        refine lv_iinc (v := nI (j + 1)) (lv' := [(3, .int (nI (j + 1))), (2, .int (n + 1)), (0, .ref (ad 13 0)), (1, .int (nI a))]) hx hb dX5_partMany_30 hl (k := 1) rfl (nI_1 j) (by decide) rfl (fun ls hl => ?_)
        refine lv_goto (tgt := 4) hx hb dX5_partMany_33 (by decide) ?_
        exact ih4 (j + 1) (n + 1) (by omega) (by first | exact hz4 | (rw [← hz4]; simp [kLoop, c_3]; done) | (simp [← hz4, kLoop, c_3]; done) | (rw [← hz4]; simp only [kLoop, c_3, eq_self, if_true, if_false, Bool.false_eq_true, decide_true, decide_false, Bool.not_true, Bool.not_false, Bool.false_or, Bool.true_or, Bool.and_true, Bool.true_and, Bool.false_and, Bool.and_false, Bool.or_true, Bool.or_false]; done)) _ _ hW hS ls (lv_sub hl [0, 1, 2, 3] rfl)
  exact loop4 4 0 0 (by omega) rfl _ _ hW hS ls (lv_sub hl [0, 1, 2, 3] rfl)
set_option maxHeartbeats 4000000 in
set_option maxRecDepth 100000 in
theorem m_X5_isValue (l : Launch) (G : k_G) (PW : Heap → Prop) (a : Int32) (v : Int32) : k_Met l yX5_isValue cX5_isValue 2 (some FieldType.boolean) { frames := 1, cells := 0, slots := 0, locals := 25 } G [.int a, .int v] (PW) (some (.int (k_b (mIsV a v)))) (PW) 0 0 := by
  refine k_body (by decide) (Nat.le_of_ble_eq_true rfl) ?_
  intro p e s m below meth c ls X hr hlk hnm hW hS hl
  have hx := X.1.1
  have hb := X.1.2.1
  have hG := X.1.2.2.2.2
  have hl : lv_has ls 2 [(0, .int a), (1, .int v)] := hl
  refine lv_iload_n hx hb dX5_isValue_0 rfl (lv_at hl 1 rfl) ?_
  refine lv_i2l (v := Int32.toInt64 v) hx hb dX5_isValue_1 rfl ?_
  refine lv_lconst (v := 0) hx hb dX5_isValue_2 (by decide) ?_
  refine lv_iload_n hx hb dX5_isValue_3 rfl (lv_at hl 0 rfl) ?_
  refine lv_if_ne (tgt := 13) hx hb dX5_isValue_4 (by decide) (fun c_1 => ?_) (fun c_1 => ?_)
  · skip
    refine lv_iload_n hx hb dX5_isValue_13 rfl (lv_at hl 0 rfl) ?_
    refine lv_iconst (v := 1) hx hb dX5_isValue_14 (by decide) ?_
    refine lv_icmp_ne (tgt := 24) hx hb dX5_isValue_15 (by decide) (fun c_2 => ?_) (fun c_2 => ?_)
    · skip
      refine lv_ldc2 hx hb X.1.2.2.2.1 (hG _ g689) dX5_isValue_24 ?_
      refine w_cS1 X hS (m_X5_in l G (PW) (Int32.toInt64 v) 0 3 ) rfl rfl g583 g4 g581 g582 hd_X5_in ⟨Nat.le_of_ble_eq_true rfl, Nat.le_of_ble_eq_true rfl⟩ hW hl.1 rfl (Nat.le_of_ble_eq_true rfl) dX5_isValue_27 (Nat.zero_le _) (Nat.zero_le _) (fun H locs hW hS => ?_)
      exact w_zret X hr hlk hS (by first | rfl | (simp [mIsV, c_1, c_2]; done) | (simp [mIsV, c_1, c_2]; rfl)) (k_b_n _) hW dX5_isValue_30
    · skip
      refine lv_ldc2 hx hb X.1.2.2.2.1 (hG _ g588) dX5_isValue_18 ?_
      refine lv_goto (tgt := 27) hx hb dX5_isValue_21 (by decide) ?_
      refine w_cS1 X hS (m_X5_in l G (PW) (Int32.toInt64 v) 0 9 ) rfl rfl g583 g4 g581 g582 hd_X5_in ⟨Nat.le_of_ble_eq_true rfl, Nat.le_of_ble_eq_true rfl⟩ hW hl.1 rfl (Nat.le_of_ble_eq_true rfl) dX5_isValue_27 (Nat.zero_le _) (Nat.zero_le _) (fun H locs hW hS => ?_)
      exact w_zret X hr hlk hS (by first | rfl | (simp [mIsV, c_1, c_2]; done) | (subst c_2; simp [mIsV, c_1]; done) | (simp [mIsV, c_1, c_2]; rfl)) (k_b_n _) hW dX5_isValue_30
  · skip
    refine lv_ldc2 hx hb X.1.2.2.2.1 (hG _ g688) dX5_isValue_7 ?_
    refine lv_goto (tgt := 27) hx hb dX5_isValue_10 (by decide) ?_
    refine w_cS1 X hS (m_X5_in l G (PW) (Int32.toInt64 v) 0 7 ) rfl rfl g583 g4 g581 g582 hd_X5_in ⟨Nat.le_of_ble_eq_true rfl, Nat.le_of_ble_eq_true rfl⟩ hW hl.1 rfl (Nat.le_of_ble_eq_true rfl) dX5_isValue_27 (Nat.zero_le _) (Nat.zero_le _) (fun H locs hW hS => ?_)
    exact w_zret X hr hlk hS (by first | rfl | (simp [mIsV, c_1]; done) | (subst c_1; simp [mIsV]; done) | (simp [mIsV, c_1]; rfl)) (k_b_n _) hW dX5_isValue_30
