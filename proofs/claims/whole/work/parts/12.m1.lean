set_option maxHeartbeats 4000000 in
set_option maxRecDepth 100000 in
theorem m_X4_bit (l : Launch) (G : k_G) (PW : Heap → Prop) (n : Int32) : k_Met l yX4_bit cX4_bit 1 (some FieldType.int) { frames := 0, cells := 0, slots := 0, locals := 0 } G [.int n] (PW) (some (.int (kBit n))) (PW) 0 0 := by
  refine k_body (by decide) (Nat.le_of_ble_eq_true rfl) ?_
  intro p e s m below meth c ls X hr hlk hnm hW hS hl
  have hx := X.1.1
  have hb := X.1.2.1
  have hG := X.1.2.2.2.2
  have hl : lv_has ls 1 [(0, .int n)] := hl
  refine lv_iload_n hx hb dX4_bit_0 rfl (lv_at hl 0 rfl) ?_
  refine lv_if_lt (tgt := 16) hx hb dX4_bit_1 (by decide) (fun c_1 => ?_) (fun c_1 => ?_)
  · skip
    refine lv_iconst (v := 0) hx hb dX4_bit_16 (by decide) ?_
    exact w_iret X hr hlk hS (by first | rfl | (simp [kBit, c_1]; done) | (simp [kBit, c_1]; rfl)) hW dX4_bit_17
  · skip
    refine lv_iload_n hx hb dX4_bit_4 rfl (lv_at hl 0 rfl) ?_
    refine lv_bipush (v := 30) hx hb dX4_bit_5 (by decide) ?_
    refine lv_icmp_gt (tgt := 16) hx hb dX4_bit_7 (by decide) (fun c_2 => ?_) (fun c_2 => ?_)
    · skip
      refine lv_iconst (v := 0) hx hb dX4_bit_16 (by decide) ?_
      exact w_iret X hr hlk hS (by first | rfl | (simp [kBit, c_1, c_2]; done) | (simp [kBit, c_1, c_2]; rfl)) hW dX4_bit_17
    · skip
      refine lv_iconst (v := 1) hx hb dX4_bit_10 (by decide) ?_
      refine lv_iload_n hx hb dX4_bit_11 rfl (lv_at hl 0 rfl) ?_
      refine lv_ishl hx hb dX4_bit_12 ?_
      refine lv_goto (tgt := 17) hx hb dX4_bit_13 (by decide) ?_
      exact w_iret X hr hlk hS (by first | rfl | (simp [kBit, c_1, c_2]; done) | (simp [kBit, c_1, c_2]; rfl)) hW dX4_bit_17
set_option maxHeartbeats 4000000 in
set_option maxRecDepth 100000 in
theorem m_X4_within (l : Launch) (G : k_G) (PW : Heap → Prop) (v : Int32) (a : Int32) (b : Int32) : k_Met l yX4_within cX4_within 3 (some FieldType.boolean) { frames := 0, cells := 0, slots := 0, locals := 0 } G [.int v, .int a, .int b] (PW) (some (.int (k_b (kWithin v a b)))) (PW) 0 0 := by
  refine k_body (by decide) (Nat.le_of_ble_eq_true rfl) ?_
  intro p e s m below meth c ls X hr hlk hnm hW hS hl
  have hx := X.1.1
  have hb := X.1.2.1
  have hG := X.1.2.2.2.2
  have hl : lv_has ls 3 [(0, .int v), (1, .int a), (2, .int b)] := hl
  refine lv_iload_n hx hb dX4_within_0 rfl (lv_at hl 0 rfl) ?_
  refine lv_iload_n hx hb dX4_within_1 rfl (lv_at hl 1 rfl) ?_
  refine lv_icmp_lt (tgt := 14) hx hb dX4_within_2 (by decide) (fun c_1 => ?_) (fun c_1 => ?_)
  · skip
    refine lv_iconst (v := 0) hx hb dX4_within_14 (by decide) ?_
    exact w_zret X hr hlk hS (by first | rfl | (simp [kWithin, k_b, c_1]; done) | (simp [kWithin, k_b, c_1]; rfl)) (k_b_n _) hW dX4_within_15
  · skip
    refine lv_iload_n hx hb dX4_within_5 rfl (lv_at hl 0 rfl) ?_
    refine lv_iload_n hx hb dX4_within_6 rfl (lv_at hl 2 rfl) ?_
    refine lv_icmp_gt (tgt := 14) hx hb dX4_within_7 (by decide) (fun c_2 => ?_) (fun c_2 => ?_)
    · skip
      refine lv_iconst (v := 0) hx hb dX4_within_14 (by decide) ?_
      exact w_zret X hr hlk hS (by first | rfl | (simp [kWithin, k_b, c_1, c_2]; done) | (simp [kWithin, k_b, c_1, c_2]; rfl)) (k_b_n _) hW dX4_within_15
    · skip
      refine lv_iconst (v := 1) hx hb dX4_within_10 (by decide) ?_
      refine lv_goto (tgt := 15) hx hb dX4_within_11 (by decide) ?_
      exact w_zret X hr hlk hS (by first | rfl | (simp [kWithin, k_b, c_1, c_2]; done) | (simp [kWithin, k_b, c_1, c_2]; rfl)) (k_b_n _) hW dX4_within_15
set_option maxHeartbeats 4000000 in
set_option maxRecDepth 100000 in
theorem m_X4_isWord (l : Launch) (G : k_G) (PW : Heap → Prop) (w : Int32) : k_Met l yX4_isWord cX4_isWord 1 (some FieldType.boolean) { frames := 1, cells := 0, slots := 0, locals := 22 } G [.int w] (PW) (some (.int (k_b (kWithin w 0 39)))) (PW) 0 0 := by
  refine k_body (by decide) (Nat.le_of_ble_eq_true rfl) ?_
  intro p e s m below meth c ls X hr hlk hnm hW hS hl
  have hx := X.1.1
  have hb := X.1.2.1
  have hG := X.1.2.2.2.2
  have hl : lv_has ls 1 [(0, .int w)] := hl
  refine lv_iload_n hx hb dX4_isWord_0 rfl (lv_at hl 0 rfl) ?_
  refine lv_iconst (v := 0) hx hb dX4_isWord_1 (by decide) ?_
  refine lv_bipush (v := 39) hx hb dX4_isWord_2 (by decide) ?_
  refine w_cS1 X hS (m_X4_within l G (PW) w 0 39 ) rfl rfl g83 g1 g81 g82 hd_X4_within ⟨Nat.le_of_ble_eq_true rfl, Nat.le_of_ble_eq_true rfl⟩ hW hl.1 rfl (Nat.le_of_ble_eq_true rfl) dX4_isWord_4 (Nat.zero_le _) (Nat.zero_le _) (fun H locs hW hS => ?_)
  exact w_zret X hr hlk hS (by first | rfl | (simp []; done) | (simp []; rfl)) (k_b_n _) hW dX4_isWord_7
set_option maxHeartbeats 4000000 in
set_option maxRecDepth 100000 in
theorem m_X4_isSetOfWords (l : Launch) (G : k_G) (PW : Heap → Prop) (x : Int64) : k_Met l yX4_isSetOfWords cX4_isSetOfWords 2 (some FieldType.boolean) { frames := 0, cells := 0, slots := 0, locals := 0 } G [.long (x)] (PW) (some (.int (k_b (kIsSW x)))) (PW) 0 0 := by
  refine k_body (by decide) (Nat.le_of_ble_eq_true rfl) ?_
  intro p e s m below meth c ls X hr hlk hnm hW hS hl
  have hx := X.1.1
  have hb := X.1.2.1
  have hG := X.1.2.2.2.2
  have hl : lv_has ls 2 [(0, .long (x))] := hl
  refine lv_lload_n hx hb dX4_isSetOfWords_0 rfl (lv_at hl 0 rfl) ?_
  refine lv_lconst (v := 0) hx hb dX4_isSetOfWords_1 (by decide) ?_
  refine W.lcmp hx hb dX4_isSetOfWords_2 ?_
  refine lv_if_lt (tgt := 18) hx hb dX4_isSetOfWords_3 (by decide) (fun c_1 => ?_) (fun c_1 => ?_)
  · skip
    rw [lg_cmp_lt] at c_1
    refine lv_iconst (v := 0) hx hb dX4_isSetOfWords_18 (by decide) ?_
    exact w_zret X hr hlk hS (by first | rfl | (simp [kIsSW, k_b, c_1]; done) | (simp [kIsSW, k_b, c_1]; rfl)) (k_b_n _) hW dX4_isSetOfWords_19
  · skip
    rw [lg_cmp_lt] at c_1
    refine lv_lload_n hx hb dX4_isSetOfWords_6 rfl (lv_at hl 0 rfl) ?_
    refine lv_ldc2 hx hb X.1.2.2.2.1 (hG _ g176) dX4_isSetOfWords_7 ?_
    refine W.lcmp hx hb dX4_isSetOfWords_10 ?_
    refine lv_if_ge (tgt := 18) hx hb dX4_isSetOfWords_11 (by decide) (fun c_2 => ?_) (fun c_2 => ?_)
    · skip
      rw [lg_cmp_ge] at c_2
      refine lv_iconst (v := 0) hx hb dX4_isSetOfWords_18 (by decide) ?_
      exact w_zret X hr hlk hS (by first | rfl | (simp [kIsSW, k_b, c_1, c_2]; done) | (simp [kIsSW, k_b, c_1, c_2]; rfl)) (k_b_n _) hW dX4_isSetOfWords_19
    · skip
      rw [lg_cmp_ge] at c_2
      refine lv_iconst (v := 1) hx hb dX4_isSetOfWords_14 (by decide) ?_
      refine lv_goto (tgt := 19) hx hb dX4_isSetOfWords_15 (by decide) ?_
      exact w_zret X hr hlk hS (by first | rfl | (simp [kIsSW, k_b, c_1, c_2]; done) | (simp [kIsSW, k_b, c_1, c_2]; rfl)) (k_b_n _) hW dX4_isSetOfWords_19
set_option maxHeartbeats 4000000 in
set_option maxRecDepth 100000 in
theorem m_X4_allValues (l : Launch) (G : k_G) (PW : Heap → Prop) (a : Int32) : k_Met l yX4_allValues cX4_allValues 1 (some FieldType.int) { frames := 0, cells := 0, slots := 0, locals := 0 } G [.int a] (PW) (some (.int (kAllV a))) (PW) 0 0 := by
  refine k_body (by decide) (Nat.le_of_ble_eq_true rfl) ?_
  intro p e s m below meth c ls X hr hlk hnm hW hS hl
  have hx := X.1.1
  have hb := X.1.2.1
  have hG := X.1.2.2.2.2
  have hl : lv_has ls 1 [(0, .int a)] := hl
  refine lv_iload_n hx hb dX4_allValues_0 rfl (lv_at hl 0 rfl) ?_
  refine lv_if_lt (tgt := 20) hx hb dX4_allValues_1 (by decide) (fun c_1 => ?_) (fun c_1 => ?_)
  · skip
    refine lv_iconst (v := 0) hx hb dX4_allValues_20 (by decide) ?_
    exact w_iret X hr hlk hS (by first | rfl | (simp [kAllV, c_1]; done) | (simp [kAllV, c_1]; rfl)) hW dX4_allValues_21
  · skip
    refine lv_iload_n hx hb dX4_allValues_4 rfl (lv_at hl 0 rfl) ?_
    refine w_gets X hS g143 dX4_allValues_5 ?_
    refine w_tlen X hS dX4_allValues_8 ?_
    refine lv_icmp_ge (tgt := 20) hx hb dX4_allValues_9 (by decide) (fun c_2 => ?_) (fun c_2 => ?_)
    · skip
      refine lv_iconst (v := 0) hx hb dX4_allValues_20 (by decide) ?_
      exact w_iret X hr hlk hS (by first | rfl | (simp [kAllV, c_1, c_2]; done) | (simp [kAllV, c_1, c_2]; rfl)) hW dX4_allValues_21
    · skip
      refine w_gets X hS g143 dX4_allValues_12 ?_
      refine lv_iload_n hx hb dX4_allValues_15 rfl (lv_at hl 0 rfl) ?_
      refine w_tld X hS (k_in_a c_1 c_2 rfl) dX4_allValues_16 ?_
      refine lv_goto (tgt := 21) hx hb dX4_allValues_17 (by decide) ?_
      exact w_iret X hr hlk hS (by first | rfl | (simp [kAllV, c_1, c_2]; done) | (simp [kAllV, c_1, c_2]; rfl)) hW dX4_allValues_21
set_option maxHeartbeats 4000000 in
set_option maxRecDepth 100000 in
theorem m_X4_isSetOfValues (l : Launch) (G : k_G) (PW : Heap → Prop) (a : Int32) (x : Int32) : k_Met l yX4_isSetOfValues cX4_isSetOfValues 2 (some FieldType.boolean) { frames := 1, cells := 0, slots := 0, locals := 20 } G [.int a, .int x] (PW) (some (.int (k_b (kIsSV a x)))) (PW) 0 0 := by
  refine k_body (by decide) (Nat.le_of_ble_eq_true rfl) ?_
  intro p e s m below meth c ls X hr hlk hnm hW hS hl
  have hx := X.1.1
  have hb := X.1.2.1
  have hG := X.1.2.2.2.2
  have hl : lv_has ls 2 [(0, .int a), (1, .int x)] := hl
  refine lv_iload_n hx hb dX4_isSetOfValues_0 rfl (lv_at hl 1 rfl) ?_
  refine lv_if_le (tgt := 16) hx hb dX4_isSetOfValues_1 (by decide) (fun c_1 => ?_) (fun c_1 => ?_)
  · skip
    refine lv_iconst (v := 0) hx hb dX4_isSetOfValues_16 (by decide) ?_
    exact w_zret X hr hlk hS (by first | rfl | (simp [kIsSV, k_b, c_1]; done) | (simp [kIsSV, k_b, c_1]; rfl)) (k_b_n _) hW dX4_isSetOfValues_17
  · skip
    refine lv_iload_n hx hb dX4_isSetOfValues_4 rfl (lv_at hl 1 rfl) ?_
    refine lv_iload_n hx hb dX4_isSetOfValues_5 rfl (lv_at hl 0 rfl) ?_
    refine w_cS1 X hS (m_X4_allValues l G (PW) a ) rfl rfl g142 g1 g180 g141 hd_X4_allValues ⟨Nat.le_of_ble_eq_true rfl, Nat.le_of_ble_eq_true rfl⟩ hW hl.1 rfl (Nat.le_of_ble_eq_true rfl) dX4_isSetOfValues_6 (Nat.zero_le _) (Nat.zero_le _) (fun H locs hW hS => ?_)
    refine lv_icmp_gt (tgt := 16) hx hb dX4_isSetOfValues_9 (by decide) (fun c_2 => ?_) (fun c_2 => ?_)
    · skip
      refine lv_iconst (v := 0) hx hb dX4_isSetOfValues_16 (by decide) ?_
      exact w_zret X hr hlk hS (by first | rfl | (simp [kIsSV, k_b, c_1, c_2]; done) | (simp [kIsSV, k_b, c_1, c_2]; rfl)) (k_b_n _) hW dX4_isSetOfValues_17
    · skip
      refine lv_iconst (v := 1) hx hb dX4_isSetOfValues_12 (by decide) ?_
      refine lv_goto (tgt := 17) hx hb dX4_isSetOfValues_13 (by decide) ?_
      exact w_zret X hr hlk hS (by first | rfl | (simp [kIsSV, k_b, c_1, c_2]; done) | (simp [kIsSV, k_b, c_1, c_2]; rfl)) (k_b_n _) hW dX4_isSetOfValues_17
set_option maxHeartbeats 4000000 in
set_option maxRecDepth 100000 in
theorem m_X4_isValue (l : Launch) (G : k_G) (PW : Heap → Prop) (a : Int32) (v : Int32) : k_Met l yX4_isValue cX4_isValue 2 (some FieldType.boolean) { frames := 1, cells := 0, slots := 0, locals := 20 } G [.int a, .int v] (PW) (some (.int (k_b (kIsVal a v)))) (PW) 0 0 := by
  refine k_body (by decide) (Nat.le_of_ble_eq_true rfl) ?_
  intro p e s m below meth c ls X hr hlk hnm hW hS hl
  have hx := X.1.1
  have hb := X.1.2.1
  have hG := X.1.2.2.2.2
  have hl : lv_has ls 2 [(0, .int a), (1, .int v)] := hl
  refine lv_iload_n hx hb dX4_isValue_0 rfl (lv_at hl 0 rfl) ?_
  refine w_cS1 X hS (m_X4_allValues l G (PW) a ) rfl rfl g142 g1 g180 g141 hd_X4_allValues ⟨Nat.le_of_ble_eq_true rfl, Nat.le_of_ble_eq_true rfl⟩ hW hl.1 rfl (Nat.le_of_ble_eq_true rfl) dX4_isValue_1 (Nat.zero_le _) (Nat.zero_le _) (fun H locs hW hS => ?_)
  refine lv_iload_n hx hb dX4_isValue_4 rfl (lv_at hl 1 rfl) ?_
  refine w_cS1 X hS (m_X4_bit l G (PW) v ) rfl rfl g110 g1 g131 g109 hd_X4_bit ⟨Nat.le_of_ble_eq_true rfl, Nat.le_of_ble_eq_true rfl⟩ hW hl.1 rfl (Nat.le_of_ble_eq_true rfl) dX4_isValue_5 (Nat.zero_le _) (Nat.zero_le _) (fun H locs hW hS => ?_)
  refine lv_iand hx hb dX4_isValue_8 ?_
  refine lv_if_eq (tgt := 16) hx hb dX4_isValue_9 (by decide) (fun c_1 => ?_) (fun c_1 => ?_)
  · skip
    refine lv_iconst (v := 0) hx hb dX4_isValue_16 (by decide) ?_
    exact w_zret X hr hlk hS (by first | rfl | (simp [kIsVal, k_b, c_1]; done) | (simp [kIsVal, k_b, c_1]; rfl)) (k_b_n _) hW dX4_isValue_17
  · skip
    refine lv_iconst (v := 1) hx hb dX4_isValue_12 (by decide) ?_
    refine lv_goto (tgt := 17) hx hb dX4_isValue_13 (by decide) ?_
    exact w_zret X hr hlk hS (by first | rfl | (simp [kIsVal, k_b, c_1]; done) | (simp [kIsVal, k_b, c_1]; rfl)) (k_b_n _) hW dX4_isValue_17
set_option maxHeartbeats 4000000 in
set_option maxRecDepth 100000 in
theorem m_X4_isValueOrNone (l : Launch) (G : k_G) (PW : Heap → Prop) (a : Int32) (v : Int32) : k_Met l yX4_isValueOrNone cX4_isValueOrNone 2 (some FieldType.boolean) { frames := 2, cells := 0, slots := 0, locals := 41 } G [.int a, .int v] (PW) (some (.int (k_b (kIsValN a v)))) (PW) 0 0 := by
  refine k_body (by decide) (Nat.le_of_ble_eq_true rfl) ?_
  intro p e s m below meth c ls X hr hlk hnm hW hS hl
  have hx := X.1.1
  have hb := X.1.2.1
  have hG := X.1.2.2.2.2
  have hl : lv_has ls 2 [(0, .int a), (1, .int v)] := hl
  refine lv_iload_n hx hb dX4_isValueOrNone_0 rfl (lv_at hl 1 rfl) ?_
  refine lv_iconst (v := (-1)) hx hb dX4_isValueOrNone_1 (by decide) ?_
  refine lv_icmp_eq (tgt := 13) hx hb dX4_isValueOrNone_2 (by decide) (fun c_1 => ?_) (fun c_1 => ?_)
  · skip
    refine lv_iconst (v := 1) hx hb dX4_isValueOrNone_13 (by decide) ?_
    refine lv_goto (tgt := 18) hx hb dX4_isValueOrNone_14 (by decide) ?_
    exact w_zret X hr hlk hS (by first | rfl | (simp [kIsValN, k_b, c_1]; done) | (simp [kIsValN, k_b, c_1]; rfl)) (k_b_n _) hW dX4_isValueOrNone_18
  · skip
    refine lv_iload_n hx hb dX4_isValueOrNone_5 rfl (lv_at hl 0 rfl) ?_
    refine lv_iload_n hx hb dX4_isValueOrNone_6 rfl (lv_at hl 1 rfl) ?_
    refine w_cS1 X hS (m_X4_isValue l G (PW) a v ) rfl rfl g348 g1 g346 g347 hd_X4_isValue ⟨Nat.le_of_ble_eq_true rfl, Nat.le_of_ble_eq_true rfl⟩ hW hl.1 rfl (Nat.le_of_ble_eq_true rfl) dX4_isValueOrNone_7 (Nat.zero_le _) (Nat.zero_le _) (fun H locs hW hS => ?_)
    refine lb_if_eq (tgt := 17) hx hb dX4_isValueOrNone_10 (by decide) (fun c_2 => ?_) (fun c_2 => ?_)
    · skip
      refine lv_iconst (v := 0) hx hb dX4_isValueOrNone_17 (by decide) ?_
      exact w_zret X hr hlk hS (by first | rfl | (simp [kIsValN, k_b, c_1, c_2]; done) | (simp [kIsValN, k_b, c_1, c_2]; rfl)) (k_b_n _) hW dX4_isValueOrNone_18
    · skip
      refine lv_iconst (v := 1) hx hb dX4_isValueOrNone_13 (by decide) ?_
      refine lv_goto (tgt := 18) hx hb dX4_isValueOrNone_14 (by decide) ?_
      exact w_zret X hr hlk hS (by first | rfl | (simp [kIsValN, k_b, c_1, c_2]; done) | (simp [kIsValN, k_b, c_1, c_2]; rfl)) (k_b_n _) hW dX4_isValueOrNone_18
set_option maxHeartbeats 4000000 in
set_option maxRecDepth 100000 in
theorem m_X4_least (l : Launch) (G : k_G) (PW : Heap → Prop) (x : Int32) : k_Met l yX4_least cX4_least 2 (some FieldType.int) { frames := 1, cells := 0, slots := 0, locals := 20 } G [.int x] (PW) (some (.int (kLeast x))) (PW) 0 0 := by
  refine k_body (by decide) (Nat.le_of_ble_eq_true rfl) ?_
  intro p e s m below meth c ls X hr hlk hnm hW hS hl
  have hx := X.1.1
  have hb := X.1.2.1
  have hG := X.1.2.2.2.2
  have hl : lv_has ls 2 [(0, .int x)] := hl
  refine lv_iconst (v := 0) hx hb dX4_least_0 (by decide) ?_
  refine lv_istore_n (lv' := [(1, .int 0), (0, .int x)]) hx hb dX4_least_1 rfl hl (by decide) rfl (fun ls hl => ?_)
  have loop2 : ∀ (d i : Nat), i + d = 31 → (kLeastF x d i = kLeast x) → ∀ (H : Heap) (locs : List Loc), PW H → va_S (k_A G) s.heap H locs → ∀ ls : Array Slot, lv_has ls 2 [(1, .int (nI i)), (0, .int x)] → W p l e { frames := 1, cells := 0, slots := 0, locals := 20 } s m ([.int x] : List Value).toArray below meth c H locs 0 0 (MQ below (k_Q G (some (.int (kLeast x))) (PW)) ([.int x] : List Value).toArray s 0 0 (k_A G)) (F0 m 2 ls []) := by
    intro d
    induction d with
    | zero =>
      intro i hi2 hz2  H locs hW hS ls hl
      refine lv_iload_n hx hb dX4_least_2 rfl (lv_at hl 0 rfl) ?_
      refine lv_bipush (v := 30) hx hb dX4_least_3 (by decide) ?_
      refine lv_icmp_gt (tgt := 25) hx hb dX4_least_5 (by decide) (fun c_1 => ?_) (fun c_1 => absurd ((nI_ltI (a := 30) (b := i) (by decide) (by omega)).mpr (by omega)) c_1)
      refine lv_iconst (v := (-1)) hx hb dX4_least_25 (by decide) ?_
      exact w_iret X hr hlk hS (by first | exact hz2 | (rw [← hz2]; simp [kLeastF, c_1]; done) | (simp [← hz2, kLeastF, c_1]; done) | (rw [← hz2]; simp only [kLeastF, c_1, eq_self, if_true, if_false, Bool.false_eq_true, decide_true, decide_false, Bool.not_true, Bool.not_false, Bool.false_or, Bool.true_or, Bool.and_true, Bool.true_and, Bool.false_and, Bool.and_false, Bool.or_true, Bool.or_false]; done) | (simp [kLeastF, c_1]; done)) hW dX4_least_26
    | succ d ih =>
      intro i hi2 hz2  H locs hW hS ls hl
      have hlt2 : i < 31 := by omega
      have ih2 := ih
      refine lv_iload_n hx hb dX4_least_2 rfl (lv_at hl 0 rfl) ?_
      refine lv_bipush (v := 30) hx hb dX4_least_3 (by decide) ?_
      refine lv_icmp_gt (tgt := 25) hx hb dX4_least_5 (by decide) (fun c_2 => absurd c_2 (fun h => by have := (nI_ltI (a := 30) (b := i) (by decide) (by omega)).mp h; omega)) (fun c_2 => ?_)
      refine lv_iload_n hx hb dX4_least_8 rfl (lv_at hl 1 rfl) ?_
      refine lv_iload_n hx hb dX4_least_9 rfl (lv_at hl 0 rfl) ?_
      refine w_cS1 X hS (m_X4_bit l G (PW) (nI i) ) rfl rfl g110 g1 g131 g109 hd_X4_bit ⟨Nat.le_of_ble_eq_true rfl, Nat.le_of_ble_eq_true rfl⟩ hW hl.1 rfl (Nat.le_of_ble_eq_true rfl) dX4_least_10 (Nat.zero_le _) (Nat.zero_le _) (fun H locs hW hS => ?_)
      refine lv_iand hx hb dX4_least_13 ?_
      refine lv_if_eq (tgt := 19) hx hb dX4_least_14 (by decide) (fun c_3 => ?_) (fun c_3 => ?_)
      · skip
        refine lv_iinc (v := nI (i + 1)) (lv' := [(1, .int (nI (i + 1))), (0, .int x)]) hx hb dX4_least_19 hl (k := 0) rfl (nI_1 i) (by decide) rfl (fun ls hl => ?_)
        refine lv_goto (tgt := 2) hx hb dX4_least_22 (by decide) ?_
        exact ih2 (i + 1) (by omega) (by first | exact hz2 | (rw [← hz2]; simp [kLeastF, c_2, c_3]; done) | (simp [← hz2, kLeastF, c_2, c_3]; done) | (rw [← hz2]; simp only [kLeastF, c_2, c_3, eq_self, if_true, if_false, Bool.false_eq_true, decide_true, decide_false, Bool.not_true, Bool.not_false, Bool.false_or, Bool.true_or, Bool.and_true, Bool.true_and, Bool.false_and, Bool.and_false, Bool.or_true, Bool.or_false]; done)) _ _ hW hS ls (lv_sub hl [0, 1] rfl)
      · skip
        refine lv_iload_n hx hb dX4_least_17 rfl (lv_at hl 0 rfl) ?_
        exact w_iret X hr hlk hS (by first | exact hz2 | (rw [← hz2]; simp [kLeastF, c_2, c_3]; done) | (simp [← hz2, kLeastF, c_2, c_3]; done) | (rw [← hz2]; simp only [kLeastF, c_2, c_3, eq_self, if_true, if_false, Bool.false_eq_true, decide_true, decide_false, Bool.not_true, Bool.not_false, Bool.false_or, Bool.true_or, Bool.and_true, Bool.true_and, Bool.false_and, Bool.and_false, Bool.or_true, Bool.or_false]; done) | (simp [kLeastF, c_2, c_3]; done)) hW dX4_least_18
  exact loop2 31 0 (by omega) rfl _ _ hW hS ls (lv_sub hl [0, 1] rfl)
set_option maxHeartbeats 4000000 in
set_option maxRecDepth 100000 in
theorem m_X2_foldOf (l : Launch) (G : k_G) (ad : Nat → Nat → Nat) (nA nK : Nat) (I : k_I) (J : k_J) (w : Int32) : k_Met l yX2_foldOf cX2_foldOf 2 (some FieldType.int) { frames := 0, cells := 0, slots := 0, locals := 0 } G [.ref (ad 1 0), .int w] (Wd G ad nA nK I J) (some (.int (kFoldOf I w))) (Wd G ad nA nK I J) 0 0 := by
  refine k_body (by decide) (Nat.le_of_ble_eq_true rfl) ?_
  intro p e s m below meth c ls X hr hlk hnm hW hS hl
  have hx := X.1.1
  have hb := X.1.2.1
  have hG := X.1.2.2.2.2
  have hl : lv_has ls 2 [(0, .ref (ad 1 0)), (1, .int w)] := hl
  refine lv_iload_n hx hb dX2_foldOf_0 rfl (lv_at hl 1 rfl) ?_
  refine lv_if_lt (tgt := 22) hx hb dX2_foldOf_1 (by decide) (fun c_1 => ?_) (fun c_1 => ?_)
  · skip
    refine lv_iconst (v := (-1)) hx hb dX2_foldOf_22 (by decide) ?_
    exact w_iret X hr hlk hS (by first | rfl | (simp [kFoldOf, c_1]; done) | (simp [kFoldOf, c_1]; rfl)) hW dX2_foldOf_23
  · skip
    refine lv_iload_n hx hb dX2_foldOf_4 rfl (lv_at hl 1 rfl) ?_
    refine lv_aload_n hx hb dX2_foldOf_5 rfl (lv_at hl 0 rfl) ?_
    refine w_get X hW 1 0 Nat.zero_lt_one rfl rfl inG2 0 (by decide) g24 rfl dX2_foldOf_6 ?_
    refine w_alen X hW 2 0 Nat.zero_lt_one rfl 0 rfl (v := 40) rfl dX2_foldOf_9 ?_
    refine lv_icmp_ge (tgt := 22) hx hb dX2_foldOf_10 (by decide) (fun c_2 => ?_) (fun c_2 => ?_)
    · skip
      refine lv_iconst (v := (-1)) hx hb dX2_foldOf_22 (by decide) ?_
      exact w_iret X hr hlk hS (by first | rfl | (simp [kFoldOf, c_1, c_2]; done) | (simp [kFoldOf, c_1, c_2]; rfl)) hW dX2_foldOf_23
    · skip
      refine lv_aload_n hx hb dX2_foldOf_13 rfl (lv_at hl 0 rfl) ?_
      refine w_get X hW 1 0 Nat.zero_lt_one rfl rfl inG2 0 (by decide) g24 rfl dX2_foldOf_14 ?_
      refine lv_iload_n hx hb dX2_foldOf_17 rfl (lv_at hl 1 rfl) ?_
      refine w_iald X hW 2 0 Nat.zero_lt_one rfl (k_in_a c_1 c_2 rfl) dX2_foldOf_18 ?_
      refine lv_goto (tgt := 23) hx hb dX2_foldOf_19 (by decide) ?_
      exact w_iret X hr hlk hS (by first | rfl | (simp [kFoldOf, c_1, c_2]; done) | (simp [kFoldOf, c_1, c_2]; rfl)) hW dX2_foldOf_23
set_option maxHeartbeats 4000000 in
set_option maxRecDepth 100000 in
theorem m_X2_turn (l : Launch) (G : k_G) (ad : Nat → Nat → Nat) (nA nK : Nat) (I : k_I) (J : k_J) (w : Int32) (t : Int32) : k_Met l yX2_turn cX2_turn 3 none { frames := 0, cells := 0, slots := 0, locals := 0 } G [.ref (ad 1 0), .int w, .int t] (Wd G ad nA nK I J) (none) (Wd G ad nA nK (kTurn I w t) J) 0 0 := by
  refine k_body (by decide) (Nat.le_of_ble_eq_true rfl) ?_
  intro p e s m below meth c ls X hr hlk hnm hW hS hl
  have hx := X.1.1
  have hb := X.1.2.1
  have hG := X.1.2.2.2.2
  have hl : lv_has ls 3 [(0, .ref (ad 1 0)), (1, .int w), (2, .int t)] := hl
  refine lv_iload_n hx hb dX2_turn_0 rfl (lv_at hl 1 rfl) ?_
  refine lv_if_lt (tgt := 20) hx hb dX2_turn_1 (by decide) (fun c_1 => ?_) (fun c_1 => ?_)
  · skip
    exact w_vret X hr hlk hS (hW.to (by first | rfl | (simp [kTurn, c_1]; done)) rfl) dX2_turn_20
  · skip
    refine lv_iload_n hx hb dX2_turn_4 rfl (lv_at hl 1 rfl) ?_
    refine lv_aload_n hx hb dX2_turn_5 rfl (lv_at hl 0 rfl) ?_
    refine w_get X hW 1 0 Nat.zero_lt_one rfl rfl inG2 0 (by decide) g24 rfl dX2_turn_6 ?_
    refine w_alen X hW 2 0 Nat.zero_lt_one rfl 0 rfl (v := 40) rfl dX2_turn_9 ?_
    refine lv_icmp_ge (tgt := 20) hx hb dX2_turn_10 (by decide) (fun c_2 => ?_) (fun c_2 => ?_)
    · skip
      exact w_vret X hr hlk hS (hW.to (by first | rfl | (simp [kTurn, c_1, c_2]; done)) rfl) dX2_turn_20
    · skip
      refine lv_aload_n hx hb dX2_turn_13 rfl (lv_at hl 0 rfl) ?_
      refine w_get X hW 1 0 Nat.zero_lt_one rfl rfl inG2 0 (by decide) g24 rfl dX2_turn_14 ?_
      refine lv_iload_n hx hb dX2_turn_17 rfl (lv_at hl 1 rfl) ?_
      refine lv_iload_n hx hb dX2_turn_18 rfl (lv_at hl 2 rfl) ?_
      refine w_iast X hW hS 2 0 Nat.zero_lt_one rfl (k_in_a c_1 c_2 rfl) rfl dX2_turn_19 (fun H locs hW hS => ?_)
      obtain ⟨I3, eI3⟩ : ∃ z, z = k_up I 2 0 (upd (I 2 0) ((w).toNatClampNeg) t) := ⟨_, rfl⟩
      rw [← eI3] at hW
      exact w_vret X hr hlk hS (hW.to (by first | rfl | (subst eI3; simp [kTurn, c_1, c_2]; done) | (subst eI3; rfl) | (subst eI3; simp [kTurn, c_1, c_2]; done) | (subst eI3; simp [kTurn, c_1, c_2]; rfl) | (simp [kTurn, c_1, c_2, eI3]; done)) rfl) dX2_turn_20
set_option maxHeartbeats 4000000 in
set_option maxRecDepth 100000 in
theorem m_X2_folded (l : Launch) (G : k_G) (ad : Nat → Nat → Nat) (nA nK : Nat) (I : k_I) (J : k_J) (x : Int64) : k_Met l yX2_folded cX2_folded 6 (some FieldType.long) { frames := 0, cells := 0, slots := 0, locals := 0 } G [.ref (ad 1 0), .long (x)] (Wd G ad nA nK I J) (some (.long (kFold (I 2 0) x))) (Wd G ad nA nK I J) 0 0 := by
  refine k_body (by decide) (Nat.le_of_ble_eq_true rfl) ?_
  intro p e s m below meth c ls X hr hlk hnm hW hS hl
  have hx := X.1.1
  have hb := X.1.2.1
  have hG := X.1.2.2.2.2
  have hl : lv_has ls 6 [(0, .ref (ad 1 0)), (1, .long (x))] := hl
  refine lv_lconst (v := 0) hx hb dX2_folded_0 (by decide) ?_
  refine lv_lstore_n (lv' := [(3, .long (0)), (0, .ref (ad 1 0)), (1, .long (x))]) hx hb dX2_folded_1 rfl hl (by decide) rfl (fun ls hl => ?_)
  refine lv_iconst (v := 0) hx hb dX2_folded_2 (by decide) ?_
  refine lv_istore (lv' := [(5, .int 0), (3, .long (0)), (0, .ref (ad 1 0)), (1, .long (x))]) hx hb dX2_folded_3 hl (by decide) rfl (fun ls hl => ?_)
  have loop5 : ∀ (d i : Nat) (r : Int64), i + d = 40 → (kLoop (kFoldStep (I 2 0) x) d i r = kFold (I 2 0) x) → ∀ (H : Heap) (locs : List Loc), Wd G ad nA nK I J H → va_S (k_A G) s.heap H locs → ∀ ls : Array Slot, lv_has ls 6 [(5, .int (nI i)), (3, .long (r)), (0, .ref (ad 1 0)), (1, .long (x))] → W p l e { frames := 0, cells := 0, slots := 0, locals := 0 } s m ([.ref (ad 1 0), .long (x)] : List Value).toArray below meth c H locs 0 0 (MQ below (k_Q G (some (.long (kFold (I 2 0) x))) (Wd G ad nA nK I J)) ([.ref (ad 1 0), .long (x)] : List Value).toArray s 0 0 (k_A G)) (F0 m 5 ls []) := by
    intro d
    induction d with
    | zero =>
      intro i r hi5 hz5  H locs hW hS ls hl
      refine lv_iload hx hb dX2_folded_5 (lv_at hl 0 rfl) ?_
      refine lv_aload_n hx hb dX2_folded_7 rfl (lv_at hl 2 rfl) ?_
      refine w_get X hW 1 0 Nat.zero_lt_one rfl rfl inG2 0 (by decide) g24 rfl dX2_folded_8 ?_
      refine w_alen X hW 2 0 Nat.zero_lt_one rfl 0 rfl (v := 40) rfl dX2_folded_11 ?_
      refine lv_icmp_ge (tgt := 44) hx hb dX2_folded_12 (by decide) (fun _ => ?_) (fun c_1 => absurd (nI_le (a := 40) (b := i) (by omega) (by omega)) c_1)
      refine lv_lload_n hx hb dX2_folded_44 rfl (lv_at hl 1 rfl) ?_
      exact w_lret X hr hlk hS (by first | exact hz5 | (rw [← hz5]; simp [kLoop, kFoldStep]; done) | (simp [← hz5, kLoop, kFoldStep]; done) | (rw [← hz5]; simp only [kLoop, kFoldStep, eq_self, if_true, if_false, Bool.false_eq_true, decide_true, decide_false, Bool.not_true, Bool.not_false, Bool.false_or, Bool.true_or, Bool.and_true, Bool.true_and, Bool.false_and, Bool.and_false, Bool.or_true, Bool.or_false]; done) | (simp [kLoop, kFoldStep]; done)) hW dX2_folded_45
    | succ d ih =>
      intro i r hi5 hz5  H locs hW hS ls hl
      have hlt5 : i < 40 := by omega
      have ih5 := ih
      refine lv_iload hx hb dX2_folded_5 (lv_at hl 0 rfl) ?_
      refine lv_aload_n hx hb dX2_folded_7 rfl (lv_at hl 2 rfl) ?_
      refine w_get X hW 1 0 Nat.zero_lt_one rfl rfl inG2 0 (by decide) g24 rfl dX2_folded_8 ?_
      refine w_alen X hW 2 0 Nat.zero_lt_one rfl 0 rfl (v := 40) rfl dX2_folded_11 ?_
      refine lv_icmp_ge (tgt := 44) hx hb dX2_folded_12 (by decide) (fun c_2 => absurd c_2 (nI_ge (a := i) (b := 40) (by omega) (by omega))) (fun _ => ?_)
      refine lv_lload_n hx hb dX2_folded_15 rfl (lv_at hl 3 rfl) ?_
      refine lv_lconst (v := 1) hx hb dX2_folded_16 (by decide) ?_
      refine lv_iload hx hb dX2_folded_17 (lv_at hl 0 rfl) ?_
      refine lv_lshl (v := 1 <<< (Int32.toInt64 (nI i) &&& 63)) hx hb dX2_folded_19 rfl ?_
      refine lv_land hx hb dX2_folded_20 ?_
      refine lv_lconst (v := 0) hx hb dX2_folded_21 (by decide) ?_
      refine W.lcmp hx hb dX2_folded_22 ?_
      refine lv_if_eq (tgt := 38) hx hb dX2_folded_23 (by decide) (fun c_3 => ?_) (fun c_3 => ?_)
      · skip
        rw [lg_cmp_eq] at c_3
        refine lv_iinc (v := nI (i + 1)) (lv' := [(5, .int (nI (i + 1))), (3, .long (r)), (0, .ref (ad 1 0)), (1, .long (x))]) hx hb dX2_folded_38 hl (k := 0) rfl (nI_1 i) (by decide) rfl (fun ls hl => ?_)
        refine lv_goto (tgt := 5) hx hb dX2_folded_41 (by decide) ?_
        exact ih5 (i + 1) r (by omega) (by first | exact hz5 | (rw [← hz5]; simp [kLoop, kFoldStep, c_3]; done) | (simp [← hz5, kLoop, kFoldStep, c_3]; done) | (rw [← hz5]; simp only [kLoop, kFoldStep, c_3, eq_self, if_true, if_false, Bool.false_eq_true, decide_true, decide_false, Bool.not_true, Bool.not_false, Bool.false_or, Bool.true_or, Bool.and_true, Bool.true_and, Bool.false_and, Bool.and_false, Bool.or_true, Bool.or_false]; done)) _ _ hW hS ls (lv_sub hl [0, 1, 2, 3] rfl)
      · skip
        rw [lg_cmp_eq] at c_3
        refine lv_lload_n hx hb dX2_folded_26 rfl (lv_at hl 1 rfl) ?_
        refine lv_lconst (v := 1) hx hb dX2_folded_27 (by decide) ?_
        refine lv_aload_n hx hb dX2_folded_28 rfl (lv_at hl 2 rfl) ?_
        refine w_get X hW 1 0 Nat.zero_lt_one rfl rfl inG2 0 (by decide) g24 rfl dX2_folded_29 ?_
        refine lv_iload hx hb dX2_folded_32 (lv_at hl 0 rfl) ?_
        refine w_ialdN (i := i) X hW 2 0 Nat.zero_lt_one rfl (by omega) dX2_folded_34 ?_
        refine lv_lshl (v := 1 <<< (Int32.toInt64 (I 2 0 i) &&& 63)) hx hb dX2_folded_35 rfl ?_
        refine lv_lor hx hb dX2_folded_36 ?_
        refine lv_topl (fun x4 ex4 => ?_)
        refine lv_lstore_n (lv' := [(3, .long (x4)), (5, .int (nI i)), (0, .ref (ad 1 0)), (1, .long (x))]) hx hb dX2_folded_37 rfl hl (by decide) rfl (fun ls hl => ?_)
        refine lv_iinc (v := nI (i + 1)) (lv' := [(5, .int (nI (i + 1))), (3, .long (x4)), (0, .ref (ad 1 0)), (1, .long (x))]) hx hb dX2_folded_38 hl (k := 1) rfl (nI_1 i) (by decide) rfl (fun ls hl => ?_)
        refine lv_goto (tgt := 5) hx hb dX2_folded_41 (by decide) ?_
        exact ih5 (i + 1) x4 (by omega) (by first | exact hz5 | (rw [← hz5]; simp [kLoop, kFoldStep, c_3, ex4]; done) | (simp [← hz5, kLoop, kFoldStep, c_3, ex4]; done) | (rw [← hz5]; simp only [kLoop, kFoldStep, c_3, ex4, eq_self, if_true, if_false, Bool.false_eq_true, decide_true, decide_false, Bool.not_true, Bool.not_false, Bool.false_or, Bool.true_or, Bool.and_true, Bool.true_and, Bool.false_and, Bool.and_false, Bool.or_true, Bool.or_false]; done) | (simp only [ex4]; exact hz5)) _ _ hW hS ls (lv_sub hl [0, 1, 2, 3] rfl)
  exact loop5 40 0 0 (by omega) rfl _ _ hW hS ls (lv_sub hl [0, 1, 2, 3] rfl)
set_option maxHeartbeats 4000000 in
set_option maxRecDepth 100000 in
theorem m_X3_now (l : Launch) (G : k_G) (ad : Nat → Nat → Nat) (nA nK : Nat) (I : k_I) (J : k_J) : k_Met l yX3_now cX3_now 1 (some FieldType.int) { frames := 0, cells := 0, slots := 0, locals := 0 } G [.ref (ad 3 0)] (Wd G ad nA nK I J) (some (.int (I 3 0 2))) (Wd G ad nA nK I J) 0 0 := by
  refine k_body (by decide) (Nat.le_of_ble_eq_true rfl) ?_
  intro p e s m below meth c ls X hr hlk hnm hW hS hl
  have hx := X.1.1
  have hb := X.1.2.1
  have hG := X.1.2.2.2.2
  have hl : lv_has ls 1 [(0, .ref (ad 3 0))] := hl
  refine lv_aload_n hx hb dX3_now_0 rfl (lv_at hl 0 rfl) ?_
  refine w_get X hW 3 0 Nat.zero_lt_one rfl rfl inG3 2 (by decide) g37 rfl dX3_now_1 ?_
  exact w_iret X hr hlk hS (by first | rfl | (simp []; done) | (simp []; rfl)) hW dX3_now_4
set_option maxHeartbeats 4000000 in
set_option maxRecDepth 100000 in
theorem m_X3_isChangedSince (l : Launch) (G : k_G) (ad : Nat → Nat → Nat) (nA nK : Nat) (I : k_I) (J : k_J) (x : Int32) (t : Int32) : k_Met l yX3_isChangedSince cX3_isChangedSince 4 (some FieldType.boolean) { frames := 1, cells := 0, slots := 0, locals := 20 } G [.ref (ad 3 0), .int x, .int t] (Wd G ad nA nK I J) (some (.int (k_b (kChg I x t)))) (Wd G ad nA nK I J) 0 0 := by
  refine k_body (by decide) (Nat.le_of_ble_eq_true rfl) ?_
  intro p e s m below meth c ls X hr hlk hnm hW hS hl
  have hx := X.1.1
  have hb := X.1.2.1
  have hG := X.1.2.2.2.2
  have hl : lv_has ls 4 [(0, .ref (ad 3 0)), (1, .int x), (2, .int t)] := hl
  refine lv_iconst (v := 0) hx hb dX3_isChangedSince_0 (by decide) ?_
  refine lv_istore_n (lv' := [(3, .int 0), (0, .ref (ad 3 0)), (1, .int x), (2, .int t)]) hx hb dX3_isChangedSince_1 rfl hl (by decide) rfl (fun ls hl => ?_)
  have loop2 : ∀ (d i : Nat), i + d = 10 → (kAny (fun k => !decide (x &&& kBit (nI k) = 0) && !decide (I 5 0 k ≤ t)) d i = kChg I x t) → ∀ (H : Heap) (locs : List Loc), Wd G ad nA nK I J H → va_S (k_A G) s.heap H locs → ∀ ls : Array Slot, lv_has ls 4 [(3, .int (nI i)), (0, .ref (ad 3 0)), (1, .int x), (2, .int t)] → W p l e { frames := 1, cells := 0, slots := 0, locals := 20 } s m ([.ref (ad 3 0), .int x, .int t] : List Value).toArray below meth c H locs 0 0 (MQ below (k_Q G (some (.int (k_b (kChg I x t)))) (Wd G ad nA nK I J)) ([.ref (ad 3 0), .int x, .int t] : List Value).toArray s 0 0 (k_A G)) (F0 m 2 ls []) := by
    intro d
    induction d with
    | zero =>
      intro i hi2 hz2  H locs hW hS ls hl
      refine lv_iload_n hx hb dX3_isChangedSince_2 rfl (lv_at hl 0 rfl) ?_
      refine lv_aload_n hx hb dX3_isChangedSince_3 rfl (lv_at hl 1 rfl) ?_
      refine w_get X hW 3 0 Nat.zero_lt_one rfl rfl inG3 1 (by decide) g36 rfl dX3_isChangedSince_4 ?_
      refine w_alen X hW 5 0 Nat.zero_lt_one rfl 0 rfl (v := 10) rfl dX3_isChangedSince_7 ?_
      refine lv_icmp_ge (tgt := 38) hx hb dX3_isChangedSince_8 (by decide) (fun _ => ?_) (fun c_1 => absurd (nI_le (a := 10) (b := i) (by omega) (by omega)) c_1)
      refine lv_iconst (v := 0) hx hb dX3_isChangedSince_38 (by decide) ?_
      exact w_zret X hr hlk hS (by first | exact hz2 | (rw [← hz2]; simp [kAny, k_b]; done) | (simp [← hz2, kAny, k_b]; done) | (rw [← hz2]; simp only [kAny, k_b, eq_self, if_true, if_false, Bool.false_eq_true, decide_true, decide_false, Bool.not_true, Bool.not_false, Bool.false_or, Bool.true_or, Bool.and_true, Bool.true_and, Bool.false_and, Bool.and_false, Bool.or_true, Bool.or_false]; done) | (simp [kAny, k_b]; done)) (k_b_n _) hW dX3_isChangedSince_39
    | succ d ih =>
      intro i hi2 hz2  H locs hW hS ls hl
      have hlt2 : i < 10 := by omega
      have ih2 := ih
      refine lv_iload_n hx hb dX3_isChangedSince_2 rfl (lv_at hl 0 rfl) ?_
      refine lv_aload_n hx hb dX3_isChangedSince_3 rfl (lv_at hl 1 rfl) ?_
      refine w_get X hW 3 0 Nat.zero_lt_one rfl rfl inG3 1 (by decide) g36 rfl dX3_isChangedSince_4 ?_
      refine w_alen X hW 5 0 Nat.zero_lt_one rfl 0 rfl (v := 10) rfl dX3_isChangedSince_7 ?_
      refine lv_icmp_ge (tgt := 38) hx hb dX3_isChangedSince_8 (by decide) (fun c_2 => absurd c_2 (nI_ge (a := i) (b := 10) (by omega) (by omega))) (fun _ => ?_)
      refine lv_iload_n hx hb dX3_isChangedSince_11 rfl (lv_at hl 2 rfl) ?_
      refine lv_iload_n hx hb dX3_isChangedSince_12 rfl (lv_at hl 0 rfl) ?_
      refine w_cN1 X hS (m_X4_bit l G (Wd G ad nA nK I J) (nI i) ) rfl rfl g110 g1 X.2.2.2.2.1.2.1 g109 hd_X4_bit ⟨Nat.le_of_ble_eq_true rfl, Nat.le_of_ble_eq_true rfl⟩ hW hl.1 rfl (Nat.le_of_ble_eq_true rfl) dX3_isChangedSince_13 (Nat.zero_le _) (Nat.zero_le _) (fun H locs hW hS => ?_)
      refine lv_iand hx hb dX3_isChangedSince_16 ?_
      refine lv_if_eq (tgt := 32) hx hb dX3_isChangedSince_17 (by decide) (fun c_3 => ?_) (fun c_3 => ?_)
      · skip
        refine lv_iinc (v := nI (i + 1)) (lv' := [(3, .int (nI (i + 1))), (0, .ref (ad 3 0)), (1, .int x), (2, .int t)]) hx hb dX3_isChangedSince_32 hl (k := 0) rfl (nI_1 i) (by decide) rfl (fun ls hl => ?_)
        refine lv_goto (tgt := 2) hx hb dX3_isChangedSince_35 (by decide) ?_
        exact ih2 (i + 1) (by omega) (by first | exact hz2 | (rw [← hz2]; simp [kAny, k_b, c_3]; done) | (simp [← hz2, kAny, k_b, c_3]; done) | (rw [← hz2]; simp only [kAny, k_b, c_3, eq_self, if_true, if_false, Bool.false_eq_true, decide_true, decide_false, Bool.not_true, Bool.not_false, Bool.false_or, Bool.true_or, Bool.and_true, Bool.true_and, Bool.false_and, Bool.and_false, Bool.or_true, Bool.or_false]; done)) _ _ hW hS ls (lv_sub hl [0, 1, 2, 3] rfl)
      · skip
        refine lv_aload_n hx hb dX3_isChangedSince_20 rfl (lv_at hl 1 rfl) ?_
        refine w_get X hW 3 0 Nat.zero_lt_one rfl rfl inG3 1 (by decide) g36 rfl dX3_isChangedSince_21 ?_
        refine lv_iload_n hx hb dX3_isChangedSince_24 rfl (lv_at hl 0 rfl) ?_
        refine w_ialdN (i := i) X hW 5 0 Nat.zero_lt_one rfl (by omega) dX3_isChangedSince_25 ?_
        refine lv_iload_n hx hb dX3_isChangedSince_26 rfl (lv_at hl 3 rfl) ?_
        refine lv_icmp_le (tgt := 32) hx hb dX3_isChangedSince_27 (by decide) (fun c_4 => ?_) (fun c_4 => ?_)
        · skip
          refine lv_iinc (v := nI (i + 1)) (lv' := [(3, .int (nI (i + 1))), (0, .ref (ad 3 0)), (1, .int x), (2, .int t)]) hx hb dX3_isChangedSince_32 hl (k := 0) rfl (nI_1 i) (by decide) rfl (fun ls hl => ?_)
          refine lv_goto (tgt := 2) hx hb dX3_isChangedSince_35 (by decide) ?_
          exact ih2 (i + 1) (by omega) (by first | exact hz2 | (rw [← hz2]; simp [kAny, k_b, c_3, c_4]; done) | (simp [← hz2, kAny, k_b, c_3, c_4]; done) | (rw [← hz2]; simp only [kAny, k_b, c_3, c_4, eq_self, if_true, if_false, Bool.false_eq_true, decide_true, decide_false, Bool.not_true, Bool.not_false, Bool.false_or, Bool.true_or, Bool.and_true, Bool.true_and, Bool.false_and, Bool.and_false, Bool.or_true, Bool.or_false]; done)) _ _ hW hS ls (lv_sub hl [0, 1, 2, 3] rfl)
        · skip
          refine lv_iconst (v := 1) hx hb dX3_isChangedSince_30 (by decide) ?_
          exact w_zret X hr hlk hS (by first | exact hz2 | (rw [← hz2]; simp [kAny, k_b, c_3, c_4]; done) | (simp [← hz2, kAny, k_b, c_3, c_4]; done) | (rw [← hz2]; simp only [kAny, k_b, c_3, c_4, eq_self, if_true, if_false, Bool.false_eq_true, decide_true, decide_false, Bool.not_true, Bool.not_false, Bool.false_or, Bool.true_or, Bool.and_true, Bool.true_and, Bool.false_and, Bool.and_false, Bool.or_true, Bool.or_false]; done) | (simp [kAny, k_b, c_3, c_4]; done)) (k_b_n _) hW dX3_isChangedSince_31
  exact loop2 10 0 (by omega) rfl _ _ hW hS ls (lv_sub hl [0, 1, 2, 3] rfl)
set_option maxHeartbeats 4000000 in
set_option maxRecDepth 100000 in
theorem m_X0_isMoved (l : Launch) (G : k_G) (ad : Nat → Nat → Nat) (nA nK : Nat) (I : k_I) (J : k_J) (i : Nat) (hi : i < nA) : k_Met l yX0_isMoved cX0_isMoved 1 (some FieldType.boolean) { frames := 0, cells := 0, slots := 0, locals := 0 } G [.ref (ad 8 i)] (Wd G ad nA nK I J) (some (.int (k_b (kMoved I i)))) (Wd G ad nA nK I J) 0 0 := by
  refine k_body (by decide) (Nat.le_of_ble_eq_true rfl) ?_
  intro p e s m below meth c ls X hr hlk hnm hW hS hl
  have hx := X.1.1
  have hb := X.1.2.1
  have hG := X.1.2.2.2.2
  have hl : lv_has ls 1 [(0, .ref (ad 8 i))] := hl
  refine lv_aload_n hx hb dX0_isMoved_0 rfl (lv_at hl 0 rfl) ?_
  refine w_get X hW 8 i hi rfl rfl inG0 9 (by decide) g202 rfl dX0_isMoved_1 ?_
  refine lv_aload_n hx hb dX0_isMoved_4 rfl (lv_at hl 0 rfl) ?_
  refine w_get X hW 8 i hi rfl rfl inG0 0 (by decide) g186 rfl dX0_isMoved_5 ?_
  refine lv_icmp_eq (tgt := 15) hx hb dX0_isMoved_8 (by decide) (fun c_1 => ?_) (fun c_1 => ?_)
  · skip
    refine lv_iconst (v := 0) hx hb dX0_isMoved_15 (by decide) ?_
    exact w_zret X hr hlk hS (by first | rfl | (simp [kMoved, k_b, c_1]; done) | (simp [kMoved, k_b, c_1]; rfl)) (k_b_n _) hW dX0_isMoved_16
  · skip
    refine lv_iconst (v := 1) hx hb dX0_isMoved_11 (by decide) ?_
    refine lv_goto (tgt := 16) hx hb dX0_isMoved_12 (by decide) ?_
    exact w_zret X hr hlk hS (by first | rfl | (simp [kMoved, k_b, c_1]; done) | (simp [kMoved, k_b, c_1]; rfl)) (k_b_n _) hW dX0_isMoved_16
set_option maxHeartbeats 4000000 in
set_option maxRecDepth 100000 in
theorem m_X0_kindNow (l : Launch) (G : k_G) (ad : Nat → Nat → Nat) (nA nK : Nat) (I : k_I) (J : k_J) (i : Nat) (hi : i < nA) : k_Met l yX0_kindNow cX0_kindNow 1 (some FieldType.int) { frames := 1, cells := 0, slots := 0, locals := 20 } G [.ref (ad 8 i)] (Wd G ad nA nK I J) (some (.int (kKind I i))) (Wd G ad nA nK I J) 0 0 := by
  refine k_body (by decide) (Nat.le_of_ble_eq_true rfl) ?_
  intro p e s m below meth c ls X hr hlk hnm hW hS hl
  have hx := X.1.1
  have hb := X.1.2.1
  have hG := X.1.2.2.2.2
  have hl : lv_has ls 1 [(0, .ref (ad 8 i))] := hl
  refine lv_aload_n hx hb dX0_kindNow_0 rfl (lv_at hl 0 rfl) ?_
  refine w_cV1 X hS (m_X0_isMoved l G ad nA nK I J i hi) rfl rfl g274 g5 g271 g272 g273 hd_X0_isMoved ⟨Nat.le_of_ble_eq_true rfl, Nat.le_of_ble_eq_true rfl⟩ (k_rec X hW 8 i hi rfl rfl) hW hl.1 rfl (Nat.le_of_ble_eq_true rfl) dX0_kindNow_1 (Nat.zero_le _) (Nat.zero_le _) (fun H locs hW hS => ?_)
  refine lb_if_eq (tgt := 11) hx hb dX0_kindNow_4 (by decide) (fun c_1 => ?_) (fun c_1 => ?_)
  · skip
    refine lv_aload_n hx hb dX0_kindNow_11 rfl (lv_at hl 0 rfl) ?_
    refine w_get X hW 8 i hi rfl rfl inG0 1 (by decide) g188 rfl dX0_kindNow_12 ?_
    exact w_iret X hr hlk hS (by first | rfl | (simp [kKind, c_1]; done) | (simp [kKind, c_1]; rfl)) hW dX0_kindNow_15
  · skip
    refine lv_iconst (v := 2) hx hb dX0_kindNow_7 (by decide) ?_
    refine lv_goto (tgt := 15) hx hb dX0_kindNow_8 (by decide) ?_
    exact w_iret X hr hlk hS (by first | rfl | (simp [kKind, c_1]; done) | (simp [kKind, c_1]; rfl)) hW dX0_kindNow_15
set_option maxHeartbeats 4000000 in
set_option maxRecDepth 100000 in
theorem m_X0_isDoubted (l : Launch) (G : k_G) (ad : Nat → Nat → Nat) (nA nK : Nat) (I : k_I) (J : k_J) (i : Nat) (hi : i < nA) : k_Met l yX0_isDoubted cX0_isDoubted 1 (some FieldType.boolean) { frames := 1, cells := 0, slots := 0, locals := 20 } G [.ref (ad 8 i)] (Wd G ad nA nK I J) (some (.int (k_b (kDoubted I i)))) (Wd G ad nA nK I J) 0 0 := by
  refine k_body (by decide) (Nat.le_of_ble_eq_true rfl) ?_
  intro p e s m below meth c ls X hr hlk hnm hW hS hl
  have hx := X.1.1
  have hb := X.1.2.1
  have hG := X.1.2.2.2.2
  have hl : lv_has ls 1 [(0, .ref (ad 8 i))] := hl
  refine lv_aload_n hx hb dX0_isDoubted_0 rfl (lv_at hl 0 rfl) ?_
  refine w_get X hW 8 i hi rfl rfl inG0 11 (by decide) g206 rfl dX0_isDoubted_1 ?_
  refine lv_if_eq (tgt := 18) hx hb dX0_isDoubted_4 (by decide) (fun c_1 => ?_) (fun c_1 => ?_)
  · skip
    refine lv_iconst (v := 0) hx hb dX0_isDoubted_18 (by decide) ?_
    exact w_zret X hr hlk hS (by first | rfl | (simp [kDoubted, k_b, c_1]; done) | (simp [kDoubted, k_b, c_1]; rfl)) (k_b_n _) hW dX0_isDoubted_19
  · skip
    refine lv_aload_n hx hb dX0_isDoubted_7 rfl (lv_at hl 0 rfl) ?_
    refine w_cV1 X hS (m_X0_isMoved l G ad nA nK I J i hi) rfl rfl g274 g5 g271 g272 g273 hd_X0_isMoved ⟨Nat.le_of_ble_eq_true rfl, Nat.le_of_ble_eq_true rfl⟩ (k_rec X hW 8 i hi rfl rfl) hW hl.1 rfl (Nat.le_of_ble_eq_true rfl) dX0_isDoubted_8 (Nat.zero_le _) (Nat.zero_le _) (fun H locs hW hS => ?_)
    refine lb_if_ne (tgt := 18) hx hb dX0_isDoubted_11 (by decide) (fun c_2 => ?_) (fun c_2 => ?_)
    · skip
      refine lv_iconst (v := 0) hx hb dX0_isDoubted_18 (by decide) ?_
      exact w_zret X hr hlk hS (by first | rfl | (simp [kDoubted, k_b, c_1, c_2]; done) | (simp [kDoubted, k_b, c_1, c_2]; rfl)) (k_b_n _) hW dX0_isDoubted_19
    · skip
      refine lv_iconst (v := 1) hx hb dX0_isDoubted_14 (by decide) ?_
      refine lv_goto (tgt := 19) hx hb dX0_isDoubted_15 (by decide) ?_
      exact w_zret X hr hlk hS (by first | rfl | (simp [kDoubted, k_b, c_1, c_2]; done) | (simp [kDoubted, k_b, c_1, c_2]; rfl)) (k_b_n _) hW dX0_isDoubted_19
set_option maxHeartbeats 4000000 in
set_option maxRecDepth 100000 in
theorem m_X0_setOf (l : Launch) (G : k_G) (ad : Nat → Nat → Nat) (nA nK : Nat) (I : k_I) (J : k_J) (i : Nat) (a : Int32) (hi : i < nA) : k_Met l yX0_setOf cX0_setOf 2 (some FieldType.int) { frames := 0, cells := 0, slots := 0, locals := 0 } G [.ref (ad 8 i), .int a] (Wd G ad nA nK I J) (some (.int (kSet I i a))) (Wd G ad nA nK I J) 0 0 := by
  refine k_body (by decide) (Nat.le_of_ble_eq_true rfl) ?_
  intro p e s m below meth c ls X hr hlk hnm hW hS hl
  have hx := X.1.1
  have hb := X.1.2.1
  have hG := X.1.2.2.2.2
  have hl : lv_has ls 2 [(0, .ref (ad 8 i)), (1, .int a)] := hl
  refine lv_iload_n hx hb dX0_setOf_0 rfl (lv_at hl 1 rfl) ?_
  refine lv_if_lt (tgt := 22) hx hb dX0_setOf_1 (by decide) (fun c_1 => ?_) (fun c_1 => ?_)
  · skip
    refine lv_iconst (v := 0) hx hb dX0_setOf_22 (by decide) ?_
    exact w_iret X hr hlk hS (by first | rfl | (simp [kSet, c_1]; done) | (simp [kSet, c_1]; rfl)) hW dX0_setOf_23
  · skip
    refine lv_iload_n hx hb dX0_setOf_4 rfl (lv_at hl 1 rfl) ?_
    refine lv_aload_n hx hb dX0_setOf_5 rfl (lv_at hl 0 rfl) ?_
    refine w_get X hW 8 i hi rfl rfl inG0 3 (by decide) g192 rfl dX0_setOf_6 ?_
    refine w_alen X hW 9 i hi rfl 0 rfl (v := 3) rfl dX0_setOf_9 ?_
    refine lv_icmp_ge (tgt := 22) hx hb dX0_setOf_10 (by decide) (fun c_2 => ?_) (fun c_2 => ?_)
    · skip
      refine lv_iconst (v := 0) hx hb dX0_setOf_22 (by decide) ?_
      exact w_iret X hr hlk hS (by first | rfl | (simp [kSet, c_1, c_2]; done) | (simp [kSet, c_1, c_2]; rfl)) hW dX0_setOf_23
    · skip
      refine lv_aload_n hx hb dX0_setOf_13 rfl (lv_at hl 0 rfl) ?_
      refine w_get X hW 8 i hi rfl rfl inG0 3 (by decide) g192 rfl dX0_setOf_14 ?_
      refine lv_iload_n hx hb dX0_setOf_17 rfl (lv_at hl 1 rfl) ?_
      refine w_iald X hW 9 i hi rfl (k_in_a c_1 c_2 rfl) dX0_setOf_18 ?_
      refine lv_goto (tgt := 23) hx hb dX0_setOf_19 (by decide) ?_
      exact w_iret X hr hlk hS (by first | rfl | (simp [kSet, c_1, c_2]; done) | (simp [kSet, c_1, c_2]; rfl)) hW dX0_setOf_23
set_option maxHeartbeats 4000000 in
set_option maxRecDepth 100000 in
theorem m_X0_hasValue (l : Launch) (G : k_G) (ad : Nat → Nat → Nat) (nA nK : Nat) (I : k_I) (J : k_J) (i : Nat) (a : Int32) (v : Int32) (hi : i < nA) : k_Met l yX0_hasValue cX0_hasValue 3 (some FieldType.boolean) { frames := 1, cells := 0, slots := 0, locals := 21 } G [.ref (ad 8 i), .int a, .int v] (Wd G ad nA nK I J) (some (.int (k_b (kHas I i a v)))) (Wd G ad nA nK I J) 0 0 := by
  refine k_body (by decide) (Nat.le_of_ble_eq_true rfl) ?_
  intro p e s m below meth c ls X hr hlk hnm hW hS hl
  have hx := X.1.1
  have hb := X.1.2.1
  have hG := X.1.2.2.2.2
  have hl : lv_has ls 3 [(0, .ref (ad 8 i)), (1, .int a), (2, .int v)] := hl
  refine lv_aload_n hx hb dX0_hasValue_0 rfl (lv_at hl 0 rfl) ?_
  refine lv_iload_n hx hb dX0_hasValue_1 rfl (lv_at hl 1 rfl) ?_
  refine w_cV1 X hS (m_X0_setOf l G ad nA nK I J i a hi) rfl rfl g152 g5 g149 g150 g151 hd_X0_setOf ⟨Nat.le_of_ble_eq_true rfl, Nat.le_of_ble_eq_true rfl⟩ (k_rec X hW 8 i hi rfl rfl) hW hl.1 rfl (Nat.le_of_ble_eq_true rfl) dX0_hasValue_2 (Nat.zero_le _) (Nat.zero_le _) (fun H locs hW hS => ?_)
  refine lv_iload_n hx hb dX0_hasValue_5 rfl (lv_at hl 2 rfl) ?_
  refine w_cN1 X hS (m_X4_bit l G (Wd G ad nA nK I J) v ) rfl rfl g110 g1 X.2.2.2.2.1.2.2.2 g109 hd_X4_bit ⟨Nat.le_of_ble_eq_true rfl, Nat.le_of_ble_eq_true rfl⟩ hW hl.1 rfl (Nat.le_of_ble_eq_true rfl) dX0_hasValue_6 (Nat.zero_le _) (Nat.zero_le _) (fun H locs hW hS => ?_)
  refine lv_iand hx hb dX0_hasValue_9 ?_
  refine lv_if_eq (tgt := 17) hx hb dX0_hasValue_10 (by decide) (fun c_1 => ?_) (fun c_1 => ?_)
  · skip
    refine lv_iconst (v := 0) hx hb dX0_hasValue_17 (by decide) ?_
    exact w_zret X hr hlk hS (by first | rfl | (simp [kHas, k_b, c_1]; done) | (simp [kHas, k_b, c_1]; rfl)) (k_b_n _) hW dX0_hasValue_18
  · skip
    refine lv_iconst (v := 1) hx hb dX0_hasValue_13 (by decide) ?_
    refine lv_goto (tgt := 18) hx hb dX0_hasValue_14 (by decide) ?_
    exact w_zret X hr hlk hS (by first | rfl | (simp [kHas, k_b, c_1]; done) | (simp [kHas, k_b, c_1]; rfl)) (k_b_n _) hW dX0_hasValue_18
set_option maxHeartbeats 4000000 in
set_option maxRecDepth 100000 in
theorem m_X0_partAt (l : Launch) (G : k_G) (ad : Nat → Nat → Nat) (nA nK : Nat) (I : k_I) (J : k_J) (i : Nat) (k : Int32) (hi : i < nA) : k_Met l yX0_partAt cX0_partAt 2 (some FieldType.int) { frames := 0, cells := 0, slots := 0, locals := 0 } G [.ref (ad 8 i), .int k] (Wd G ad nA nK I J) (some (.int (kPart I i k))) (Wd G ad nA nK I J) 0 0 := by
  refine k_body (by decide) (Nat.le_of_ble_eq_true rfl) ?_
  intro p e s m below meth c ls X hr hlk hnm hW hS hl
  have hx := X.1.1
  have hb := X.1.2.1
  have hG := X.1.2.2.2.2
  have hl : lv_has ls 2 [(0, .ref (ad 8 i)), (1, .int k)] := hl
  refine lv_iload_n hx hb dX0_partAt_0 rfl (lv_at hl 1 rfl) ?_
  refine lv_if_lt (tgt := 22) hx hb dX0_partAt_1 (by decide) (fun c_1 => ?_) (fun c_1 => ?_)
  · skip
    refine lv_iconst (v := (-1)) hx hb dX0_partAt_22 (by decide) ?_
    exact w_iret X hr hlk hS (by first | rfl | (simp [kPart, c_1]; done) | (simp [kPart, c_1]; rfl)) hW dX0_partAt_23
  · skip
    refine lv_iload_n hx hb dX0_partAt_4 rfl (lv_at hl 1 rfl) ?_
    refine lv_aload_n hx hb dX0_partAt_5 rfl (lv_at hl 0 rfl) ?_
    refine w_get X hW 8 i hi rfl rfl inG0 4 (by decide) g193 rfl dX0_partAt_6 ?_
    refine w_alen X hW 10 i hi rfl 0 rfl (v := 4) rfl dX0_partAt_9 ?_
    refine lv_icmp_ge (tgt := 22) hx hb dX0_partAt_10 (by decide) (fun c_2 => ?_) (fun c_2 => ?_)
    · skip
      refine lv_iconst (v := (-1)) hx hb dX0_partAt_22 (by decide) ?_
      exact w_iret X hr hlk hS (by first | rfl | (simp [kPart, c_1, c_2]; done) | (simp [kPart, c_1, c_2]; rfl)) hW dX0_partAt_23
    · skip
      refine lv_aload_n hx hb dX0_partAt_13 rfl (lv_at hl 0 rfl) ?_
      refine w_get X hW 8 i hi rfl rfl inG0 4 (by decide) g193 rfl dX0_partAt_14 ?_
      refine lv_iload_n hx hb dX0_partAt_17 rfl (lv_at hl 1 rfl) ?_
      refine w_iald X hW 10 i hi rfl (k_in_a c_1 c_2 rfl) dX0_partAt_18 ?_
      refine lv_goto (tgt := 23) hx hb dX0_partAt_19 (by decide) ?_
      exact w_iret X hr hlk hS (by first | rfl | (simp [kPart, c_1, c_2]; done) | (simp [kPart, c_1, c_2]; rfl)) hW dX0_partAt_23
set_option maxHeartbeats 4000000 in
set_option maxRecDepth 100000 in
theorem m_X1_valueFor (l : Launch) (G : k_G) (ad : Nat → Nat → Nat) (nA nK : Nat) (I : k_I) (J : k_J) (q : Nat) (a : Int32) (hq : q < nK) : k_Met l yX1_valueFor cX1_valueFor 2 (some FieldType.int) { frames := 0, cells := 0, slots := 0, locals := 0 } G [.ref (ad 11 q), .int a] (Wd G ad nA nK I J) (some (.int (kVal I q a))) (Wd G ad nA nK I J) 0 0 := by
  refine k_body (by decide) (Nat.le_of_ble_eq_true rfl) ?_
  intro p e s m below meth c ls X hr hlk hnm hW hS hl
  have hx := X.1.1
  have hb := X.1.2.1
  have hG := X.1.2.2.2.2
  have hl : lv_has ls 2 [(0, .ref (ad 11 q)), (1, .int a)] := hl
  refine lv_iload_n hx hb dX1_valueFor_0 rfl (lv_at hl 1 rfl) ?_
  refine lv_if_lt (tgt := 22) hx hb dX1_valueFor_1 (by decide) (fun c_1 => ?_) (fun c_1 => ?_)
  · skip
    refine lv_iconst (v := (-1)) hx hb dX1_valueFor_22 (by decide) ?_
    exact w_iret X hr hlk hS (by first | rfl | (simp [kVal, c_1]; done) | (simp [kVal, c_1]; rfl)) hW dX1_valueFor_23
  · skip
    refine lv_iload_n hx hb dX1_valueFor_4 rfl (lv_at hl 1 rfl) ?_
    refine lv_aload_n hx hb dX1_valueFor_5 rfl (lv_at hl 0 rfl) ?_
    refine w_get X hW 11 q hq rfl rfl inG1 1 (by decide) g450 rfl dX1_valueFor_6 ?_
    refine w_alen X hW 12 q hq rfl 0 rfl (v := 3) rfl dX1_valueFor_9 ?_
    refine lv_icmp_ge (tgt := 22) hx hb dX1_valueFor_10 (by decide) (fun c_2 => ?_) (fun c_2 => ?_)
    · skip
      refine lv_iconst (v := (-1)) hx hb dX1_valueFor_22 (by decide) ?_
      exact w_iret X hr hlk hS (by first | rfl | (simp [kVal, c_1, c_2]; done) | (simp [kVal, c_1, c_2]; rfl)) hW dX1_valueFor_23
    · skip
      refine lv_aload_n hx hb dX1_valueFor_13 rfl (lv_at hl 0 rfl) ?_
      refine w_get X hW 11 q hq rfl rfl inG1 1 (by decide) g450 rfl dX1_valueFor_14 ?_
      refine lv_iload_n hx hb dX1_valueFor_17 rfl (lv_at hl 1 rfl) ?_
      refine w_iald X hW 12 q hq rfl (k_in_a c_1 c_2 rfl) dX1_valueFor_18 ?_
      refine lv_goto (tgt := 23) hx hb dX1_valueFor_19 (by decide) ?_
      exact w_iret X hr hlk hS (by first | rfl | (simp [kVal, c_1, c_2]; done) | (simp [kVal, c_1, c_2]; rfl)) hW dX1_valueFor_23
