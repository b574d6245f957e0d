set_option maxHeartbeats 4000000 in
set_option maxRecDepth 100000 in
theorem m_X4_endOf (l : Launch) (G : k_G) (ad : Nat → Nat → Nat) (nA nK : Nat) (I : k_I) (J : k_J) (a : Int32) (hs : k_S nA nK I) : k_Met l yX4_endOf cX4_endOf 3 (some (FieldType.object "AnswerKeeper$Answer")) { frames := 1, cells := 0, slots := 0, locals := 21 } G [.ref (ad 0 0), .int a] (Wd G ad nA nK I J) (some (va_rf (Option.map (ad 8) (kEnd nA I a)))) (Wd G ad nA nK I J) 0 0 := by
  refine k_body (by decide) (Nat.le_of_ble_eq_true rfl) ?_
  intro p e s m below meth c ls X hr hlk hnm hW hS hl
  have hx := X.1.1
  have hb := X.1.2.1
  have hG := X.1.2.2.2.2
  have hA24 := hs.2.2.1
  have hK30 := hs.2.2.2.1
  have hl : lv_has ls 3 [(0, .ref (ad 0 0)), (1, .int a)] := hl
  refine lv_aload_n hx hb dX4_endOf_0 rfl (lv_at hl 0 rfl) ?_
  refine lv_iload_n hx hb dX4_endOf_1 rfl (lv_at hl 1 rfl) ?_
  refine w_cV1 X hS (m_X4_answerAt l G ad nA nK I J a hs) rfl rfl g99 g1 g96 g98 p1 hd_X4_answerAt ⟨Nat.le_of_ble_eq_true rfl, Nat.le_of_ble_eq_true rfl⟩ (k_rec X hW 0 0 Nat.zero_lt_one rfl rfl) hW hl.1 rfl (Nat.le_of_ble_eq_true rfl) dX4_endOf_2 (Nat.zero_le _) (Nat.zero_le _) (fun H locs hW hS => ?_)
  rcases hq1 : kAns nA a with _ | i1
  · skip
    refine lv_astore_nN (lv' := [(2, .null), (0, .ref (ad 0 0)), (1, .int a)]) hx hb dX4_endOf_5 rfl hl (by decide) rfl (fun ls hl => ?_)
    refine lv_aload_nN hx hb dX4_endOf_6 rfl (lv_at hl 0 rfl) ?_
    refine lv_ifnonnullN hx hb dX4_endOf_7 ?_
    refine lv_null hx hb dX4_endOf_10 ?_
    refine lv_goto (tgt := 22) hx hb dX4_endOf_11 (by decide) ?_
    exact w_aret X hr hlk hS (by first | rfl | (simp [kEnd, va_rf, hq1]; done) | (simp [kEnd, va_rf, hq1]; rfl)) hW dX4_endOf_22
  · skip
    have hi1 := kAns_b hq1
    refine lv_astore_n (lv' := [(2, .ref (ad 8 i1)), (0, .ref (ad 0 0)), (1, .int a)]) hx hb dX4_endOf_5 rfl hl (by decide) rfl (fun ls hl => ?_)
    refine lv_aload_n hx hb dX4_endOf_6 rfl (lv_at hl 0 rfl) ?_
    refine lv_ifnonnull (tgt := 14) hx hb dX4_endOf_7 (by decide) ?_
    refine lv_aload_n hx hb dX4_endOf_14 rfl (lv_at hl 1 rfl) ?_
    refine lv_aload_n hx hb dX4_endOf_15 rfl (lv_at hl 0 rfl) ?_
    refine w_get X hW 8 i1 hi1 rfl rfl inG0 9 (by decide) g203 rfl dX4_endOf_16 ?_
    refine w_cV1 X hS (m_X4_answerAt l G ad nA nK I J (I 8 i1 9) hs) rfl rfl g99 g1 g96 g98 p1 hd_X4_answerAt ⟨Nat.le_of_ble_eq_true rfl, Nat.le_of_ble_eq_true rfl⟩ (k_rec X hW 0 0 Nat.zero_lt_one rfl rfl) hW hl.1 rfl (Nat.le_of_ble_eq_true rfl) dX4_endOf_19 (Nat.zero_le _) (Nat.zero_le _) (fun H locs hW hS => ?_)
    exact w_aret X hr hlk hS (by first | rfl | (simp [kEnd, va_rf, hq1]; done) | (simp [kEnd, va_rf, hq1]; rfl)) hW dX4_endOf_22
set_option maxHeartbeats 4000000 in
set_option maxRecDepth 100000 in
theorem m_X4_partNow (l : Launch) (G : k_G) (ad : Nat → Nat → Nat) (nA nK : Nat) (I : k_I) (J : k_J) (i : Nat) (k : Int32) (hi : i < nA) (hs : k_S nA nK I) : k_Met l yX4_partNow cX4_partNow 4 (some FieldType.int) { frames := 2, cells := 0, slots := 0, locals := 43 } G [.ref (ad 0 0), .ref (ad 8 i), .int k] (Wd G ad nA nK I J) (some (.int (kPartNow nA I i k))) (Wd G ad nA nK I J) 0 0 := by
  refine k_body (by decide) (Nat.le_of_ble_eq_true rfl) ?_
  intro p e s m below meth c ls X hr hlk hnm hW hS hl
  have hx := X.1.1
  have hb := X.1.2.1
  have hG := X.1.2.2.2.2
  have hA24 := hs.2.2.1
  have hK30 := hs.2.2.2.1
  have hl : lv_has ls 4 [(0, .ref (ad 0 0)), (1, .ref (ad 8 i)), (2, .int k)] := hl
  refine lv_aload_n hx hb dX4_partNow_0 rfl (lv_at hl 0 rfl) ?_
  refine lv_aload_n hx hb dX4_partNow_1 rfl (lv_at hl 1 rfl) ?_
  refine lv_iload_n hx hb dX4_partNow_2 rfl (lv_at hl 2 rfl) ?_
  refine w_cV1 X hS (m_X0_partAt l G ad nA nK I J i k hi) rfl rfl g126 g5 g123 g124 g125 hd_X0_partAt ⟨Nat.le_of_ble_eq_true rfl, Nat.le_of_ble_eq_true rfl⟩ (k_rec X hW 8 i hi rfl rfl) hW hl.1 rfl (Nat.le_of_ble_eq_true rfl) dX4_partNow_3 (Nat.zero_le _) (Nat.zero_le _) (fun H locs hW hS => ?_)
  refine w_cV1 X hS (m_X4_endOf l G ad nA nK I J (kPart I i k) hs) rfl rfl g130 g1 g127 g129 p5 hd_X4_endOf ⟨Nat.le_of_ble_eq_true rfl, Nat.le_of_ble_eq_true rfl⟩ (k_rec X hW 0 0 Nat.zero_lt_one rfl rfl) hW hl.1 rfl (Nat.le_of_ble_eq_true rfl) dX4_partNow_6 (Nat.zero_le _) (Nat.zero_le _) (fun H locs hW hS => ?_)
  rcases hq1 : kEnd nA I (kPart I i k) with _ | i1
  · skip
    refine lv_astore_nN (lv' := [(3, .null), (0, .ref (ad 0 0)), (1, .ref (ad 8 i)), (2, .int k)]) hx hb dX4_partNow_9 rfl hl (by decide) rfl (fun ls hl => ?_)
    refine lv_aload_nN hx hb dX4_partNow_10 rfl (lv_at hl 0 rfl) ?_
    refine lv_ifnonnullN hx hb dX4_partNow_11 ?_
    refine lv_iconst (v := (-1)) hx hb dX4_partNow_14 (by decide) ?_
    refine lv_goto (tgt := 22) hx hb dX4_partNow_15 (by decide) ?_
    exact w_iret X hr hlk hS (by first | rfl | (simp [kPartNow, hq1]; done) | (simp [kPartNow, hq1]; rfl)) hW dX4_partNow_22
  · skip
    have hi1 := kEnd_b hq1
    refine lv_astore_n (lv' := [(3, .ref (ad 8 i1)), (0, .ref (ad 0 0)), (1, .ref (ad 8 i)), (2, .int k)]) hx hb dX4_partNow_9 rfl hl (by decide) rfl (fun ls hl => ?_)
    refine lv_aload_n hx hb dX4_partNow_10 rfl (lv_at hl 0 rfl) ?_
    refine lv_ifnonnull (tgt := 18) hx hb dX4_partNow_11 (by decide) ?_
    refine lv_aload_n hx hb dX4_partNow_18 rfl (lv_at hl 0 rfl) ?_
    refine w_get X hW 8 i1 hi1 rfl rfl inG0 0 (by decide) g187 rfl dX4_partNow_19 ?_
    exact w_iret X hr hlk hS (by first | rfl | (simp [kPartNow, hq1]; done) | (simp [kPartNow, hq1]; rfl)) hW dX4_partNow_22
set_option maxHeartbeats 4000000 in
set_option maxRecDepth 100000 in
theorem m_X0_partCount (l : Launch) (G : k_G) (ad : Nat → Nat → Nat) (nA nK : Nat) (I : k_I) (J : k_J) (i : Nat) (hi : i < nA) : k_Met l yX0_partCount cX0_partCount 3 (some FieldType.int) { frames := 0, cells := 0, slots := 0, locals := 0 } G [.ref (ad 8 i)] (Wd G ad nA nK I J) (some (.int (kPartN I i))) (Wd G ad nA nK I J) 0 0 := by
  refine k_body (by decide) (Nat.le_of_ble_eq_true rfl) ?_
  intro p e s m below meth c ls X hr hlk hnm hW hS hl
  have hx := X.1.1
  have hb := X.1.2.1
  have hG := X.1.2.2.2.2
  have hl : lv_has ls 3 [(0, .ref (ad 8 i))] := hl
  refine lv_iconst (v := 0) hx hb dX0_partCount_0 (by decide) ?_
  refine lv_istore_n (lv' := [(1, .int 0), (0, .ref (ad 8 i))]) hx hb dX0_partCount_1 rfl hl (by decide) rfl (fun ls hl => ?_)
  refine lv_iconst (v := 0) hx hb dX0_partCount_2 (by decide) ?_
  refine lv_istore_n (lv' := [(2, .int 0), (1, .int 0), (0, .ref (ad 8 i))]) hx hb dX0_partCount_3 rfl hl (by decide) rfl (fun ls hl => ?_)
  have loop4 : ∀ (d j : Nat) (n : Int32), j + d = 4 → (kLoop (fun k n => if I 10 i k = -1 then n else n + 1) d j n = kPartN I i) → ∀ (H : Heap) (locs : List Loc), Wd G ad nA nK I J H → va_S (k_A G) s.heap H locs → ∀ ls : Array Slot, lv_has ls 3 [(2, .int (nI j)), (1, .int n), (0, .ref (ad 8 i))] → W p l e { frames := 0, cells := 0, slots := 0, locals := 0 } s m ([.ref (ad 8 i)] : List Value).toArray below meth c H locs 0 0 (MQ below (k_Q G (some (.int (kPartN I i))) (Wd G ad nA nK I J)) ([.ref (ad 8 i)] : List Value).toArray s 0 0 (k_A G)) (F0 m 4 ls []) := by
    intro d
    induction d with
    | zero =>
      intro j n hi4 hz4  H locs hW hS ls hl
      refine lv_iload_n hx hb dX0_partCount_4 rfl (lv_at hl 0 rfl) ?_
      refine lv_aload_n hx hb dX0_partCount_5 rfl (lv_at hl 2 rfl) ?_
      refine w_get X hW 8 i hi rfl rfl inG0 4 (by decide) g193 rfl dX0_partCount_6 ?_
      refine w_alen X hW 10 i hi rfl 0 rfl (v := 4) rfl dX0_partCount_9 ?_
      refine lv_icmp_ge (tgt := 32) hx hb dX0_partCount_10 (by decide) (fun _ => ?_) (fun c_1 => absurd (nI_le (a := 4) (b := j) (by omega) (by omega)) c_1)
      refine lv_iload_n hx hb dX0_partCount_32 rfl (lv_at hl 1 rfl) ?_
      exact w_iret X hr hlk hS (by first | exact hz4 | (rw [← hz4]; simp [kLoop]; done) | (simp [← hz4, kLoop]; done) | (rw [← hz4]; simp only [kLoop, eq_self, if_true, if_false, Bool.false_eq_true, decide_true, decide_false, Bool.not_true, Bool.not_false, Bool.false_or, Bool.true_or, Bool.and_true, Bool.true_and, Bool.false_and, Bool.and_false, Bool.or_true, Bool.or_false]; done) | (simp [kLoop]; done)) hW dX0_partCount_33
    | succ d ih =>
      intro j n hi4 hz4  H locs hW hS ls hl
      have hlt4 : j < 4 := by omega
      have ih4 := ih
      refine lv_iload_n hx hb dX0_partCount_4 rfl (lv_at hl 0 rfl) ?_
      refine lv_aload_n hx hb dX0_partCount_5 rfl (lv_at hl 2 rfl) ?_
      refine w_get X hW 8 i hi rfl rfl inG0 4 (by decide) g193 rfl dX0_partCount_6 ?_
      refine w_alen X hW 10 i hi rfl 0 rfl (v := 4) rfl dX0_partCount_9 ?_
      refine lv_icmp_ge (tgt := 32) hx hb dX0_partCount_10 (by decide) (fun c_2 => absurd c_2 (nI_ge (a := j) (b := 4) (by omega) (by omega))) (fun _ => ?_)
      refine lv_aload_n hx hb dX0_partCount_13 rfl (lv_at hl 2 rfl) ?_
      refine w_get X hW 8 i hi rfl rfl inG0 4 (by decide) g193 rfl dX0_partCount_14 ?_
      refine lv_iload_n hx hb dX0_partCount_17 rfl (lv_at hl 0 rfl) ?_
      refine w_ialdN (i := j) X hW 10 i hi rfl (by omega) dX0_partCount_18 ?_
      refine lv_iconst (v := (-1)) hx hb dX0_partCount_19 (by decide) ?_
      refine lv_icmp_eq (tgt := 26) hx hb dX0_partCount_20 (by decide) (fun c_3 => ?_) (fun c_3 => ?_)
      · skip
        refine lv_iinc (v := nI (j + 1)) (lv' := [(2, .int (nI (j + 1))), (1, .int n), (0, .ref (ad 8 i))]) hx hb dX0_partCount_26 hl (k := 0) rfl (nI_1 j) (by decide) rfl (fun ls hl => ?_)
        refine lv_goto (tgt := 4) hx hb dX0_partCount_29 (by decide) ?_
        exact ih4 (j + 1) n (by omega) (by first | exact hz4 | (rw [← hz4]; simp [kLoop, c_3]; done) | (simp [← hz4, kLoop, c_3]; done) | (rw [← hz4]; simp only [kLoop, c_3, eq_self, if_true, if_false, Bool.false_eq_true, decide_true, decide_false, Bool.not_true, Bool.not_false, Bool.false_or, Bool.true_or, Bool.and_true, Bool.true_and, Bool.false_and, Bool.and_false, Bool.or_true, Bool.or_false]; done)) _ _ hW hS ls (lv_sub hl [0, 1, 2] rfl)
      · skip
        refine lv_iinc (v := n + 1) (lv' := [(1, .int (n + 1)), (2, .int (nI j)), (0, .ref (ad 8 i))]) hx hb dX0_partCount_23 hl (k := 1) rfl rfl (by decide) rfl (fun ls hl => ?_)
        refine lv_iinc (v := nI (j + 1)) (lv' := [(2, .int (nI (j + 1))), (1, .int (n + 1)), (0, .ref (ad 8 i))]) hx hb dX0_partCount_26 hl (k := 1) rfl (nI_1 j) (by decide) rfl (fun ls hl => ?_)
        refine lv_goto (tgt := 4) hx hb dX0_partCount_29 (by decide) ?_
        exact ih4 (j + 1) (n + 1) (by omega) (by first | exact hz4 | (rw [← hz4]; simp [kLoop, c_3]; done) | (simp [← hz4, kLoop, c_3]; done) | (rw [← hz4]; simp only [kLoop, c_3, eq_self, if_true, if_false, Bool.false_eq_true, decide_true, decide_false, Bool.not_true, Bool.not_false, Bool.false_or, Bool.true_or, Bool.and_true, Bool.true_and, Bool.false_and, Bool.and_false, Bool.or_true, Bool.or_false]; done)) _ _ hW hS ls (lv_sub hl [0, 1, 2] rfl)
  exact loop4 4 0 0 (by omega) rfl _ _ hW hS ls (lv_sub hl [0, 1, 2] rfl)
set_option maxHeartbeats 4000000 in
set_option maxRecDepth 100000 in
theorem m_X4_isFit (l : Launch) (G : k_G) (ad : Nat → Nat → Nat) (nA nK : Nat) (I : k_I) (J : k_J) (q : Nat) (i : Nat) (hq : q < nK) (hi : i < nA) : k_Met l yX4_isFit cX4_isFit 4 (some FieldType.boolean) { frames := 2, cells := 0, slots := 0, locals := 43 } G [.ref (ad 11 q), .ref (ad 8 i)] (Wd G ad nA nK I J) (some (.int (k_b (kFit I q i)))) (Wd G ad nA nK I J) 0 0 := by
  refine k_body (by decide) (Nat.le_of_ble_eq_true rfl) ?_
  intro p e s m below meth c ls X hr hlk hnm hW hS hl
  have hx := X.1.1
  have hb := X.1.2.1
  have hG := X.1.2.2.2.2
  have hl : lv_has ls 4 [(0, .ref (ad 11 q)), (1, .ref (ad 8 i))] := hl
  refine lv_aload_n hx hb dX4_isFit_0 rfl (lv_at hl 1 rfl) ?_
  refine w_cV1 X hS (m_X0_isMoved l G ad nA nK I J i hi) rfl rfl g274 g5 g295 g272 g273 hd_X0_isMoved ⟨Nat.le_of_ble_eq_true rfl, Nat.le_of_ble_eq_true rfl⟩ (k_rec X hW 8 i hi rfl rfl) hW hl.1 rfl (Nat.le_of_ble_eq_true rfl) dX4_isFit_1 (Nat.zero_le _) (Nat.zero_le _) (fun H locs hW hS => ?_)
  refine lb_if_eq (tgt := 9) hx hb dX4_isFit_4 (by decide) (fun c_1 => ?_) (fun c_1 => ?_)
  · skip
    refine lv_iconst (v := 0) hx hb dX4_isFit_9 (by decide) ?_
    refine lv_istore_n (lv' := [(2, .int 0), (0, .ref (ad 11 q)), (1, .ref (ad 8 i))]) hx hb dX4_isFit_10 rfl hl (by decide) rfl (fun ls hl => ?_)
    have loop11 : ∀ (d j : Nat), j + d = 3 → ((!kMoved I i && !kAny (fun a => !kFit1 I q i a) d j) = kFit I q i) → ∀ (H : Heap) (locs : List Loc), Wd G ad nA nK I J H → va_S (k_A G) s.heap H locs → ∀ ls : Array Slot, lv_has ls 4 [(2, .int (nI j)), (0, .ref (ad 11 q)), (1, .ref (ad 8 i))] → W p l e { frames := 2, cells := 0, slots := 0, locals := 43 } s m ([.ref (ad 11 q), .ref (ad 8 i)] : List Value).toArray below meth c H locs 0 0 (MQ below (k_Q G (some (.int (k_b (kFit I q i)))) (Wd G ad nA nK I J)) ([.ref (ad 11 q), .ref (ad 8 i)] : List Value).toArray s 0 0 (k_A G)) (F0 m 11 ls []) := by
      intro d
      induction d with
      | zero =>
        intro j hi11 hz11  H locs hW hS ls hl
        refine lv_iload_n hx hb dX4_isFit_11 rfl (lv_at hl 0 rfl) ?_
        refine lv_iconst (v := 3) hx hb dX4_isFit_12 (by decide) ?_
        refine lv_icmp_ge (tgt := 52) hx hb dX4_isFit_13 (by decide) (fun _ => ?_) (fun c_2 => absurd (nI_le (a := 3) (b := j) (by omega) (by omega)) c_2)
        refine lv_iconst (v := 1) hx hb dX4_isFit_52 (by decide) ?_
        exact w_zret X hr hlk hS (by first | exact hz11 | (rw [← hz11]; simp [kAny, kFit1, k_b, kFit, c_1]; done) | (simp [← hz11, kAny, kFit1, k_b, kFit, c_1]; done) | (rw [← hz11]; simp only [kAny, kFit1, k_b, kFit, c_1, eq_self, if_true, if_false, Bool.false_eq_true, decide_true, decide_false, Bool.not_true, Bool.not_false, Bool.false_or, Bool.true_or, Bool.and_true, Bool.true_and, Bool.false_and, Bool.and_false, Bool.or_true, Bool.or_false]; done) | (simp [kAny, kFit1, k_b, kFit, c_1]; done)) (k_b_n _) hW dX4_isFit_53
      | succ d ih =>
        intro j hi11 hz11  H locs hW hS ls hl
        have hlt11 : j < 3 := by omega
        have ih11 := ih
        refine lv_iload_n hx hb dX4_isFit_11 rfl (lv_at hl 0 rfl) ?_
        refine lv_iconst (v := 3) hx hb dX4_isFit_12 (by decide) ?_
        refine lv_icmp_ge (tgt := 52) hx hb dX4_isFit_13 (by decide) (fun c_3 => absurd c_3 (nI_ge (a := j) (b := 3) (by omega) (by omega))) (fun _ => ?_)
        refine lv_aload_n hx hb dX4_isFit_16 rfl (lv_at hl 1 rfl) ?_
        refine lv_iload_n hx hb dX4_isFit_17 rfl (lv_at hl 0 rfl) ?_
        refine w_cV1 X hS (m_X1_valueFor l G ad nA nK I J q (nI j) hq) rfl rfl g401 g9 g398 g399 g400 hd_X1_valueFor ⟨Nat.le_of_ble_eq_true rfl, Nat.le_of_ble_eq_true rfl⟩ (k_rec X hW 11 q hq rfl rfl) hW hl.1 rfl (Nat.le_of_ble_eq_true rfl) dX4_isFit_18 (Nat.zero_le _) (Nat.zero_le _) (fun H locs hW hS => ?_)
        refine lv_istore_n (lv' := [(3, .int (kVal I q (nI j))), (2, .int (nI j)), (0, .ref (ad 11 q)), (1, .ref (ad 8 i))]) hx hb dX4_isFit_21 rfl hl (by decide) rfl (fun ls hl => ?_)
        refine lv_aload_n hx hb dX4_isFit_22 rfl (lv_at hl 3 rfl) ?_
        refine lv_iload_n hx hb dX4_isFit_23 rfl (lv_at hl 1 rfl) ?_
        refine w_cV1 X hS (m_X0_setOf l G ad nA nK I J i (nI j) hi) rfl rfl g152 g5 g310 g150 g151 hd_X0_setOf ⟨Nat.le_of_ble_eq_true rfl, Nat.le_of_ble_eq_true rfl⟩ (k_rec X hW 8 i hi rfl rfl) hW hl.1 rfl (Nat.le_of_ble_eq_true rfl) dX4_isFit_24 (Nat.zero_le _) (Nat.zero_le _) (fun H locs hW hS => ?_)
        refine lv_if_eq (tgt := 44) hx hb dX4_isFit_27 (by decide) (fun c_4 => ?_) (fun c_4 => ?_)
        · skip
          refine lv_iconst (v := 0) hx hb dX4_isFit_44 (by decide) ?_
          exact w_zret X hr hlk hS (by first | exact hz11 | (rw [← hz11]; simp [kAny, kFit1, k_b, kFit, c_1, c_4]; done) | (simp [← hz11, kAny, kFit1, k_b, kFit, c_1, c_4]; done) | (rw [← hz11]; simp only [kAny, kFit1, k_b, kFit, c_1, c_4, eq_self, if_true, if_false, Bool.false_eq_true, decide_true, decide_false, Bool.not_true, Bool.not_false, Bool.false_or, Bool.true_or, Bool.and_true, Bool.true_and, Bool.false_and, Bool.and_false, Bool.or_true, Bool.or_false]; done) | (simp [kAny, kFit1, k_b, kFit, c_1, c_4]; done)) (k_b_n _) hW dX4_isFit_45
        · skip
          refine lv_iload_n hx hb dX4_isFit_30 rfl (lv_at hl 0 rfl) ?_
          refine lv_iconst (v := (-1)) hx hb dX4_isFit_31 (by decide) ?_
          refine lv_icmp_eq (tgt := 46) hx hb dX4_isFit_32 (by decide) (fun c_5 => ?_) (fun c_5 => ?_)
          · skip
            refine lv_iinc (v := nI (j + 1)) (lv' := [(2, .int (nI (j + 1))), (3, .int (kVal I q (nI j))), (0, .ref (ad 11 q)), (1, .ref (ad 8 i))]) hx hb dX4_isFit_46 hl (k := 1) rfl (nI_1 j) (by decide) rfl (fun ls hl => ?_)
            refine lv_goto (tgt := 11) hx hb dX4_isFit_49 (by decide) ?_
            exact ih11 (j + 1) (by omega) (by first | exact hz11 | (rw [← hz11]; simp [kAny, kFit1, k_b, kFit, c_1, c_4, c_5]; done) | (simp [← hz11, kAny, kFit1, k_b, kFit, c_1, c_4, c_5]; done) | (rw [← hz11]; simp only [kAny, kFit1, k_b, kFit, c_1, c_4, c_5, eq_self, if_true, if_false, Bool.false_eq_true, decide_true, decide_false, Bool.not_true, Bool.not_false, Bool.false_or, Bool.true_or, Bool.and_true, Bool.true_and, Bool.false_and, Bool.and_false, Bool.or_true, Bool.or_false]; done)) _ _ hW hS ls (lv_sub hl [0, 2, 3] rfl)
          · skip
            refine lv_aload_n hx hb dX4_isFit_35 rfl (lv_at hl 3 rfl) ?_
            refine lv_iload_n hx hb dX4_isFit_36 rfl (lv_at hl 1 rfl) ?_
            refine lv_iload_n hx hb dX4_isFit_37 rfl (lv_at hl 0 rfl) ?_
            refine w_cV1 X hS (m_X0_hasValue l G ad nA nK I J i (nI j) (kVal I q (nI j)) hi) rfl rfl g352 g5 g349 g350 g351 hd_X0_hasValue ⟨Nat.le_of_ble_eq_true rfl, Nat.le_of_ble_eq_true rfl⟩ (k_rec X hW 8 i hi rfl rfl) hW hl.1 rfl (Nat.le_of_ble_eq_true rfl) dX4_isFit_38 (Nat.zero_le _) (Nat.zero_le _) (fun H locs hW hS => ?_)
            refine lb_if_ne (tgt := 46) hx hb dX4_isFit_41 (by decide) (fun c_6 => ?_) (fun c_6 => ?_)
            · skip
              refine lv_iinc (v := nI (j + 1)) (lv' := [(2, .int (nI (j + 1))), (3, .int (kVal I q (nI j))), (0, .ref (ad 11 q)), (1, .ref (ad 8 i))]) hx hb dX4_isFit_46 hl (k := 1) rfl (nI_1 j) (by decide) rfl (fun ls hl => ?_)
              refine lv_goto (tgt := 11) hx hb dX4_isFit_49 (by decide) ?_
              exact ih11 (j + 1) (by omega) (by first | exact hz11 | (rw [← hz11]; simp [kAny, kFit1, k_b, kFit, c_1, c_4, c_5, c_6]; done) | (simp [← hz11, kAny, kFit1, k_b, kFit, c_1, c_4, c_5, c_6]; done) | (rw [← hz11]; simp only [kAny, kFit1, k_b, kFit, c_1, c_4, c_5, c_6, eq_self, if_true, if_false, Bool.false_eq_true, decide_true, decide_false, Bool.not_true, Bool.not_false, Bool.false_or, Bool.true_or, Bool.and_true, Bool.true_and, Bool.false_and, Bool.and_false, Bool.or_true, Bool.or_false]; done)) _ _ hW hS ls (lv_sub hl [0, 2, 3] rfl)
            · skip
              refine lv_iconst (v := 0) hx hb dX4_isFit_44 (by decide) ?_
              exact w_zret X hr hlk hS (by first | exact hz11 | (rw [← hz11]; simp [kAny, kFit1, k_b, kFit, c_1, c_4, c_5, c_6]; done) | (simp [← hz11, kAny, kFit1, k_b, kFit, c_1, c_4, c_5, c_6]; done) | (rw [← hz11]; simp only [kAny, kFit1, k_b, kFit, c_1, c_4, c_5, c_6, eq_self, if_true, if_false, Bool.false_eq_true, decide_true, decide_false, Bool.not_true, Bool.not_false, Bool.false_or, Bool.true_or, Bool.and_true, Bool.true_and, Bool.false_and, Bool.and_false, Bool.or_true, Bool.or_false]; done) | (simp [kAny, kFit1, k_b, kFit, c_1, c_4, c_5, c_6]; done)) (k_b_n _) hW dX4_isFit_45
    exact loop11 3 0 (by omega) (by simp [kFit]) _ _ hW hS ls (lv_sub hl [0, 1, 2] rfl)
  · skip
    refine lv_iconst (v := 0) hx hb dX4_isFit_7 (by decide) ?_
    exact w_zret X hr hlk hS (by first | rfl | (simp [kFit, k_b, c_1]; done) | (simp [kFit, k_b, c_1]; rfl)) (k_b_n _) hW dX4_isFit_8
set_option maxHeartbeats 4000000 in
set_option maxRecDepth 100000 in
theorem m_X4_questionOf (l : Launch) (G : k_G) (ad : Nat → Nat → Nat) (nA nK : Nat) (I : k_I) (J : k_J) (q : Nat) (i : Nat) (hq : q < nK) (hi : i < nA) : k_Met l yX4_questionOf cX4_questionOf 3 (some FieldType.int) { frames := 1, cells := 0, slots := 0, locals := 21 } G [.ref (ad 11 q), .ref (ad 8 i)] (Wd G ad nA nK I J) (some (.int (kQu I q i))) (Wd G ad nA nK I J) 0 0 := by
  refine k_body (by decide) (Nat.le_of_ble_eq_true rfl) ?_
  intro p e s m below meth c ls X hr hlk hnm hW hS hl
  have hx := X.1.1
  have hb := X.1.2.1
  have hG := X.1.2.2.2.2
  have hl : lv_has ls 3 [(0, .ref (ad 11 q)), (1, .ref (ad 8 i))] := hl
  refine lv_iconst (v := 0) hx hb dX4_questionOf_0 (by decide) ?_
  refine lv_istore_n (lv' := [(2, .int 0), (0, .ref (ad 11 q)), (1, .ref (ad 8 i))]) hx hb dX4_questionOf_1 rfl hl (by decide) rfl (fun ls hl => ?_)
  have loop2 : ∀ (d j : Nat), j + d = 3 → (kFindI (kQu1 I q i) d j = kQu I q i) → ∀ (H : Heap) (locs : List Loc), Wd G ad nA nK I J H → va_S (k_A G) s.heap H locs → ∀ ls : Array Slot, lv_has ls 3 [(2, .int (nI j)), (0, .ref (ad 11 q)), (1, .ref (ad 8 i))] → W p l e { frames := 1, cells := 0, slots := 0, locals := 21 } s m ([.ref (ad 11 q), .ref (ad 8 i)] : List Value).toArray below meth c H locs 0 0 (MQ below (k_Q G (some (.int (kQu I q i))) (Wd G ad nA nK I J)) ([.ref (ad 11 q), .ref (ad 8 i)] : List Value).toArray s 0 0 (k_A G)) (F0 m 2 ls []) := by
    intro d
    induction d with
    | zero =>
      intro j hi2 hz2  H locs hW hS ls hl
      refine lv_iload_n hx hb dX4_questionOf_2 rfl (lv_at hl 0 rfl) ?_
      refine lv_iconst (v := 3) hx hb dX4_questionOf_3 (by decide) ?_
      refine lv_icmp_ge (tgt := 36) hx hb dX4_questionOf_4 (by decide) (fun _ => ?_) (fun c_1 => absurd (nI_le (a := 3) (b := j) (by omega) (by omega)) c_1)
      refine lv_iconst (v := (-1)) hx hb dX4_questionOf_36 (by decide) ?_
      exact w_iret X hr hlk hS (by first | exact hz2 | (rw [← hz2]; simp [kFindI, kQu1]; done) | (simp [← hz2, kFindI, kQu1]; done) | (rw [← hz2]; simp only [kFindI, kQu1, eq_self, if_true, if_false, Bool.false_eq_true, decide_true, decide_false, Bool.not_true, Bool.not_false, Bool.false_or, Bool.true_or, Bool.and_true, Bool.true_and, Bool.false_and, Bool.and_false, Bool.or_true, Bool.or_false]; done) | (simp [kFindI, kQu1]; done)) hW dX4_questionOf_37
    | succ d ih =>
      intro j hi2 hz2  H locs hW hS ls hl
      have hlt2 : j < 3 := by omega
      have ih2 := ih
      refine lv_iload_n hx hb dX4_questionOf_2 rfl (lv_at hl 0 rfl) ?_
      refine lv_iconst (v := 3) hx hb dX4_questionOf_3 (by decide) ?_
      refine lv_icmp_ge (tgt := 36) hx hb dX4_questionOf_4 (by decide) (fun c_2 => absurd c_2 (nI_ge (a := j) (b := 3) (by omega) (by omega))) (fun _ => ?_)
      refine lv_aload_n hx hb dX4_questionOf_7 rfl (lv_at hl 1 rfl) ?_
      refine lv_iload_n hx hb dX4_questionOf_8 rfl (lv_at hl 0 rfl) ?_
      refine w_cV1 X hS (m_X1_valueFor l G ad nA nK I J q (nI j) hq) rfl rfl g401 g9 g398 g399 g400 hd_X1_valueFor ⟨Nat.le_of_ble_eq_true rfl, Nat.le_of_ble_eq_true rfl⟩ (k_rec X hW 11 q hq rfl rfl) hW hl.1 rfl (Nat.le_of_ble_eq_true rfl) dX4_questionOf_9 (Nat.zero_le _) (Nat.zero_le _) (fun H locs hW hS => ?_)
      refine lv_iconst (v := (-1)) hx hb dX4_questionOf_12 (by decide) ?_
      refine lv_icmp_ne (tgt := 30) hx hb dX4_questionOf_13 (by decide) (fun c_3 => ?_) (fun c_3 => ?_)
      · skip
        refine lv_iinc (v := nI (j + 1)) (lv' := [(2, .int (nI (j + 1))), (0, .ref (ad 11 q)), (1, .ref (ad 8 i))]) hx hb dX4_questionOf_30 hl (k := 0) rfl (nI_1 j) (by decide) rfl (fun ls hl => ?_)
        refine lv_goto (tgt := 2) hx hb dX4_questionOf_33 (by decide) ?_
        exact ih2 (j + 1) (by omega) (by first | exact hz2 | (rw [← hz2]; simp [kFindI, kQu1, c_3]; done) | (simp [← hz2, kFindI, kQu1, c_3]; done) | (rw [← hz2]; simp only [kFindI, kQu1, c_3, eq_self, if_true, if_false, Bool.false_eq_true, decide_true, decide_false, Bool.not_true, Bool.not_false, Bool.false_or, Bool.true_or, Bool.and_true, Bool.true_and, Bool.false_and, Bool.and_false, Bool.or_true, Bool.or_false]; done)) _ _ hW hS ls (lv_sub hl [0, 1, 2] rfl)
      · skip
        refine lv_aload_n hx hb dX4_questionOf_16 rfl (lv_at hl 2 rfl) ?_
        refine lv_iload_n hx hb dX4_questionOf_17 rfl (lv_at hl 0 rfl) ?_
        refine w_cV1 X hS (m_X0_setOf l G ad nA nK I J i (nI j) hi) rfl rfl g152 g5 g310 g150 g151 hd_X0_setOf ⟨Nat.le_of_ble_eq_true rfl, Nat.le_of_ble_eq_true rfl⟩ (k_rec X hW 8 i hi rfl rfl) hW hl.1 rfl (Nat.le_of_ble_eq_true rfl) dX4_questionOf_18 (Nat.zero_le _) (Nat.zero_le _) (fun H locs hW hS => ?_)
        refine lv_iload_n hx hb dX4_questionOf_21 rfl (lv_at hl 0 rfl) ?_
        refine w_cS1 X hS (m_X4_allValues l G (Wd G ad nA nK I J) (nI j) ) rfl rfl g142 g1 g180 g141 hd_X4_allValues ⟨Nat.le_of_ble_eq_true rfl, Nat.le_of_ble_eq_true rfl⟩ hW hl.1 rfl (Nat.le_of_ble_eq_true rfl) dX4_questionOf_22 (Nat.zero_le _) (Nat.zero_le _) (fun H locs hW hS => ?_)
        refine lv_icmp_eq (tgt := 30) hx hb dX4_questionOf_25 (by decide) (fun c_4 => ?_) (fun c_4 => ?_)
        · skip
          refine lv_iinc (v := nI (j + 1)) (lv' := [(2, .int (nI (j + 1))), (0, .ref (ad 11 q)), (1, .ref (ad 8 i))]) hx hb dX4_questionOf_30 hl (k := 0) rfl (nI_1 j) (by decide) rfl (fun ls hl => ?_)
          refine lv_goto (tgt := 2) hx hb dX4_questionOf_33 (by decide) ?_
          exact ih2 (j + 1) (by omega) (by first | exact hz2 | (rw [← hz2]; simp [kFindI, kQu1, c_3, c_4]; done) | (simp [← hz2, kFindI, kQu1, c_3, c_4]; done) | (rw [← hz2]; simp only [kFindI, kQu1, c_3, c_4, eq_self, if_true, if_false, Bool.false_eq_true, decide_true, decide_false, Bool.not_true, Bool.not_false, Bool.false_or, Bool.true_or, Bool.and_true, Bool.true_and, Bool.false_and, Bool.and_false, Bool.or_true, Bool.or_false]; done)) _ _ hW hS ls (lv_sub hl [0, 1, 2] rfl)
        · skip
          refine lv_iload_n hx hb dX4_questionOf_28 rfl (lv_at hl 0 rfl) ?_
          exact w_iret X hr hlk hS (by first | exact hz2 | (rw [← hz2]; simp [kFindI, kQu1, c_3, c_4]; done) | (simp [← hz2, kFindI, kQu1, c_3, c_4]; done) | (rw [← hz2]; simp only [kFindI, kQu1, c_3, c_4, eq_self, if_true, if_false, Bool.false_eq_true, decide_true, decide_false, Bool.not_true, Bool.not_false, Bool.false_or, Bool.true_or, Bool.and_true, Bool.true_and, Bool.false_and, Bool.and_false, Bool.or_true, Bool.or_false]; done) | (simp [kFindI, kQu1, c_3, c_4]; done)) hW dX4_questionOf_29
  exact loop2 3 0 (by omega) rfl _ _ hW hS ls (lv_sub hl [0, 1, 2] rfl)
set_option maxHeartbeats 4000000 in
set_option maxRecDepth 100000 in
theorem m_X4_costOf (l : Launch) (G : k_G) (ad : Nat → Nat → Nat) (nA nK : Nat) (I : k_I) (J : k_J) (f : Int64) (q : Nat) (i : Nat) (hq : q < nK) (hi : i < nA) : k_Met l yX4_costOf cX4_costOf 9 (some FieldType.int) { frames := 2, cells := 0, slots := 0, locals := 43 } G [.long (f), .ref (ad 11 q), .ref (ad 8 i)] (Wd G ad nA nK I J) (some (.int (kCost I J f q i))) (Wd G ad nA nK I J) 0 0 := by
  refine k_body (by decide) (Nat.le_of_ble_eq_true rfl) ?_
  intro p e s m below meth c ls X hr hlk hnm hW hS hl
  have hx := X.1.1
  have hb := X.1.2.1
  have hG := X.1.2.2.2.2
  have hl : lv_has ls 9 [(0, .long (f)), (2, .ref (ad 11 q)), (3, .ref (ad 8 i))] := hl
  refine lv_lload_n hx hb dX4_costOf_0 rfl (lv_at hl 0 rfl) ?_
  refine lv_aload_n hx hb dX4_costOf_1 rfl (lv_at hl 2 rfl) ?_
  refine w_get X hW 8 i hi rfl rfl inG0 10 (by decide) g205 rfl dX4_costOf_2 ?_
  refine lv_ldc2 hx hb X.1.2.2.2.1 (hG _ g405) dX4_costOf_5 ?_
  refine lv_lxor hx hb dX4_costOf_8 ?_
  refine lv_land hx hb dX4_costOf_9 ?_
  refine w_cS1 X hS (m_J13_bitCount_95d88 l G (Wd G ad nA nK I J) (f &&& ((J 8 i 10) ^^^ (-1))) ) rfl rfl g379 g8 g377 g378 hd_J13_bitCount_95d88 ⟨Nat.le_of_ble_eq_true rfl, Nat.le_of_ble_eq_true rfl⟩ hW hl.1 rfl (Nat.le_of_ble_eq_true rfl) dX4_costOf_10 (Nat.zero_le _) (Nat.zero_le _) (fun H locs hW hS => ?_)
  refine lv_istore (lv' := [(4, .int (kBC64 (f &&& ((J 8 i 10) ^^^ (-1))))), (0, .long (f)), (2, .ref (ad 11 q)), (3, .ref (ad 8 i))]) hx hb dX4_costOf_13 hl (by decide) rfl (fun ls hl => ?_)
  refine lv_aload_n hx hb dX4_costOf_15 rfl (lv_at hl 3 rfl) ?_
  refine w_get X hW 8 i hi rfl rfl inG0 10 (by decide) g205 rfl dX4_costOf_16 ?_
  refine lv_lload_n hx hb dX4_costOf_19 rfl (lv_at hl 1 rfl) ?_
  refine lv_ldc2 hx hb X.1.2.2.2.1 (hG _ g405) dX4_costOf_20 ?_
  refine lv_lxor hx hb dX4_costOf_23 ?_
  refine lv_land hx hb dX4_costOf_24 ?_
  refine w_cS1 X hS (m_J13_bitCount_95d88 l G (Wd G ad nA nK I J) ((J 8 i 10) &&& (f ^^^ (-1))) ) rfl rfl g379 g8 g377 g378 hd_J13_bitCount_95d88 ⟨Nat.le_of_ble_eq_true rfl, Nat.le_of_ble_eq_true rfl⟩ hW hl.1 rfl (Nat.le_of_ble_eq_true rfl) dX4_costOf_25 (Nat.zero_le _) (Nat.zero_le _) (fun H locs hW hS => ?_)
  refine lv_istore (lv' := [(5, .int (kBC64 ((J 8 i 10) &&& (f ^^^ (-1))))), (4, .int (kBC64 (f &&& ((J 8 i 10) ^^^ (-1))))), (0, .long (f)), (2, .ref (ad 11 q)), (3, .ref (ad 8 i))]) hx hb dX4_costOf_28 hl (by decide) rfl (fun ls hl => ?_)
  refine lv_aload_n hx hb dX4_costOf_30 rfl (lv_at hl 4 rfl) ?_
  refine w_cV1 X hS (m_X0_isDoubted l G ad nA nK I J i hi) rfl rfl g290 g5 g287 g288 g289 hd_X0_isDoubted ⟨Nat.le_of_ble_eq_true rfl, Nat.le_of_ble_eq_true rfl⟩ (k_rec X hW 8 i hi rfl rfl) hW hl.1 rfl (Nat.le_of_ble_eq_true rfl) dX4_costOf_31 (Nat.zero_le _) (Nat.zero_le _) (fun H locs hW hS => ?_)
  refine lb_if_eq (tgt := 42) hx hb dX4_costOf_34 (by decide) (fun c_1 => ?_) (fun c_1 => ?_)
  · skip
    refine lv_iconst (v := 0) hx hb dX4_costOf_42 (by decide) ?_
    refine lv_istore (lv' := [(6, .int 0), (5, .int (kBC64 ((J 8 i 10) &&& (f ^^^ (-1))))), (4, .int (kBC64 (f &&& ((J 8 i 10) ^^^ (-1))))), (0, .long (f)), (2, .ref (ad 11 q)), (3, .ref (ad 8 i))]) hx hb dX4_costOf_43 hl (by decide) rfl (fun ls hl => ?_)
    refine lv_aload_n hx hb dX4_costOf_45 rfl (lv_at hl 4 rfl) ?_
    refine lv_aload_n hx hb dX4_costOf_46 rfl (lv_at hl 5 rfl) ?_
    refine w_cS1 X hS (m_X4_questionOf l G ad nA nK I J q i hq hi) rfl rfl g408 g1 g406 g407 hd_X4_questionOf ⟨Nat.le_of_ble_eq_true rfl, Nat.le_of_ble_eq_true rfl⟩ hW hl.1 rfl (Nat.le_of_ble_eq_true rfl) dX4_costOf_47 (Nat.zero_le _) (Nat.zero_le _) (fun H locs hW hS => ?_)
    refine lv_iconst (v := (-1)) hx hb dX4_costOf_50 (by decide) ?_
    refine lv_icmp_ne (tgt := 58) hx hb dX4_costOf_51 (by decide) (fun c_2 => ?_) (fun c_2 => ?_)
    · skip
      refine lv_iconst (v := 5) hx hb dX4_costOf_58 (by decide) ?_
      refine lv_istore (lv' := [(7, .int 5), (6, .int 0), (5, .int (kBC64 ((J 8 i 10) &&& (f ^^^ (-1))))), (4, .int (kBC64 (f &&& ((J 8 i 10) ^^^ (-1))))), (0, .long (f)), (2, .ref (ad 11 q)), (3, .ref (ad 8 i))]) hx hb dX4_costOf_59 hl (by decide) rfl (fun ls hl => ?_)
      refine lv_bipush (v := (-9)) hx hb dX4_costOf_61 (by decide) ?_
      refine lv_bipush (v := 9) hx hb dX4_costOf_63 (by decide) ?_
      refine lv_aload_n hx hb dX4_costOf_65 rfl (lv_at hl 6 rfl) ?_
      refine w_get X hW 8 i hi rfl rfl inG0 8 (by decide) g201 rfl dX4_costOf_66 ?_
      refine va_mmin hx hb (X.1.2.2.1.trans hl.1.symm) X.1.2.2.2.1 (hG _ g409) (hG _ g319) (hG _ g7) (hG _ g320) (Nat.le_of_ble_eq_true rfl) (Nat.le_of_ble_eq_true rfl) (Nat.zero_le _) (Nat.zero_le _) dX4_costOf_69 ?_
      refine va_mmax hx hb (X.1.2.2.1.trans hl.1.symm) X.1.2.2.2.1 (hG _ g410) (hG _ g411) (hG _ g7) (hG _ g412) (Nat.le_of_ble_eq_true rfl) (Nat.le_of_ble_eq_true rfl) (Nat.zero_le _) (Nat.zero_le _) dX4_costOf_72 ?_
      refine lv_topi (fun x3 ex3 => ?_)
      refine lv_istore (lv' := [(8, .int x3), (7, .int 5), (6, .int 0), (5, .int (kBC64 ((J 8 i 10) &&& (f ^^^ (-1))))), (4, .int (kBC64 (f &&& ((J 8 i 10) ^^^ (-1))))), (0, .long (f)), (2, .ref (ad 11 q)), (3, .ref (ad 8 i))]) hx hb dX4_costOf_75 hl (by decide) rfl (fun ls hl => ?_)
      refine lv_bipush (v := 10) hx hb dX4_costOf_77 (by decide) ?_
      refine lv_iload hx hb dX4_costOf_79 (lv_at hl 4 rfl) ?_
      refine lv_imul hx hb dX4_costOf_81 ?_
      refine lv_iconst (v := 3) hx hb dX4_costOf_82 (by decide) ?_
      refine lv_iload hx hb dX4_costOf_83 (lv_at hl 3 rfl) ?_
      refine lv_imul hx hb dX4_costOf_85 ?_
      refine lv_iadd hx hb dX4_costOf_86 ?_
      refine lv_topi (fun x4 ex4 => ?_)
      refine lv_iload hx hb dX4_costOf_87 (lv_at hl 2 rfl) ?_
      refine lv_iadd hx hb dX4_costOf_89 ?_
      refine lv_iload hx hb dX4_costOf_90 (lv_at hl 1 rfl) ?_
      refine lv_iadd hx hb dX4_costOf_92 ?_
      refine lv_iload hx hb dX4_costOf_93 (lv_at hl 0 rfl) ?_
      refine lv_isub hx hb dX4_costOf_95 ?_
      exact w_iret X hr hlk hS (by first | rfl | (simp [kCost, kMin9, kMax9, c_1, c_2, ex3, ex4]; done) | (simp [kCost, kMin9, kMax9, c_1, c_2, ex3, ex4]; rfl)) hW dX4_costOf_96
    · skip
      refine lv_iconst (v := 0) hx hb dX4_costOf_54 (by decide) ?_
      refine lv_goto (tgt := 59) hx hb dX4_costOf_55 (by decide) ?_
      refine lv_istore (lv' := [(7, .int 0), (6, .int 0), (5, .int (kBC64 ((J 8 i 10) &&& (f ^^^ (-1))))), (4, .int (kBC64 (f &&& ((J 8 i 10) ^^^ (-1))))), (0, .long (f)), (2, .ref (ad 11 q)), (3, .ref (ad 8 i))]) hx hb dX4_costOf_59 hl (by decide) rfl (fun ls hl => ?_)
      refine lv_bipush (v := (-9)) hx hb dX4_costOf_61 (by decide) ?_
      refine lv_bipush (v := 9) hx hb dX4_costOf_63 (by decide) ?_
      refine lv_aload_n hx hb dX4_costOf_65 rfl (lv_at hl 6 rfl) ?_
      refine w_get X hW 8 i hi rfl rfl inG0 8 (by decide) g201 rfl dX4_costOf_66 ?_
      refine va_mmin hx hb (X.1.2.2.1.trans hl.1.symm) X.1.2.2.2.1 (hG _ g409) (hG _ g319) (hG _ g7) (hG _ g320) (Nat.le_of_ble_eq_true rfl) (Nat.le_of_ble_eq_true rfl) (Nat.zero_le _) (Nat.zero_le _) dX4_costOf_69 ?_
      refine va_mmax hx hb (X.1.2.2.1.trans hl.1.symm) X.1.2.2.2.1 (hG _ g410) (hG _ g411) (hG _ g7) (hG _ g412) (Nat.le_of_ble_eq_true rfl) (Nat.le_of_ble_eq_true rfl) (Nat.zero_le _) (Nat.zero_le _) dX4_costOf_72 ?_
      refine lv_topi (fun x5 ex5 => ?_)
      refine lv_istore (lv' := [(8, .int x5), (7, .int 0), (6, .int 0), (5, .int (kBC64 ((J 8 i 10) &&& (f ^^^ (-1))))), (4, .int (kBC64 (f &&& ((J 8 i 10) ^^^ (-1))))), (0, .long (f)), (2, .ref (ad 11 q)), (3, .ref (ad 8 i))]) hx hb dX4_costOf_75 hl (by decide) rfl (fun ls hl => ?_)
      refine lv_bipush (v := 10) hx hb dX4_costOf_77 (by decide) ?_
      refine lv_iload hx hb dX4_costOf_79 (lv_at hl 4 rfl) ?_
      refine lv_imul hx hb dX4_costOf_81 ?_
      refine lv_iconst (v := 3) hx hb dX4_costOf_82 (by decide) ?_
      refine lv_iload hx hb dX4_costOf_83 (lv_at hl 3 rfl) ?_
      refine lv_imul hx hb dX4_costOf_85 ?_
      refine lv_iadd hx hb dX4_costOf_86 ?_
      refine lv_topi (fun x6 ex6 => ?_)
      refine lv_iload hx hb dX4_costOf_87 (lv_at hl 2 rfl) ?_
      refine lv_iadd hx hb dX4_costOf_89 ?_
      refine lv_iload hx hb dX4_costOf_90 (lv_at hl 1 rfl) ?_
      refine lv_iadd hx hb dX4_costOf_92 ?_
      refine lv_iload hx hb dX4_costOf_93 (lv_at hl 0 rfl) ?_
      refine lv_isub hx hb dX4_costOf_95 ?_
      exact w_iret X hr hlk hS (by first | rfl | (simp [kCost, kMin9, kMax9, c_1, c_2, ex5, ex6]; done) | (simp [kCost, kMin9, kMax9, c_1, c_2, ex5, ex6]; rfl)) hW dX4_costOf_96
  · skip
    refine lv_bipush (v := 15) hx hb dX4_costOf_37 (by decide) ?_
    refine lv_goto (tgt := 43) hx hb dX4_costOf_39 (by decide) ?_
    refine lv_istore (lv' := [(6, .int 15), (5, .int (kBC64 ((J 8 i 10) &&& (f ^^^ (-1))))), (4, .int (kBC64 (f &&& ((J 8 i 10) ^^^ (-1))))), (0, .long (f)), (2, .ref (ad 11 q)), (3, .ref (ad 8 i))]) hx hb dX4_costOf_43 hl (by decide) rfl (fun ls hl => ?_)
    refine lv_aload_n hx hb dX4_costOf_45 rfl (lv_at hl 4 rfl) ?_
    refine lv_aload_n hx hb dX4_costOf_46 rfl (lv_at hl 5 rfl) ?_
    refine w_cS1 X hS (m_X4_questionOf l G ad nA nK I J q i hq hi) rfl rfl g408 g1 g406 g407 hd_X4_questionOf ⟨Nat.le_of_ble_eq_true rfl, Nat.le_of_ble_eq_true rfl⟩ hW hl.1 rfl (Nat.le_of_ble_eq_true rfl) dX4_costOf_47 (Nat.zero_le _) (Nat.zero_le _) (fun H locs hW hS => ?_)
    refine lv_iconst (v := (-1)) hx hb dX4_costOf_50 (by decide) ?_
    refine lv_icmp_ne (tgt := 58) hx hb dX4_costOf_51 (by decide) (fun c_7 => ?_) (fun c_7 => ?_)
    · skip
      refine lv_iconst (v := 5) hx hb dX4_costOf_58 (by decide) ?_
      refine lv_istore (lv' := [(7, .int 5), (6, .int 15), (5, .int (kBC64 ((J 8 i 10) &&& (f ^^^ (-1))))), (4, .int (kBC64 (f &&& ((J 8 i 10) ^^^ (-1))))), (0, .long (f)), (2, .ref (ad 11 q)), (3, .ref (ad 8 i))]) hx hb dX4_costOf_59 hl (by decide) rfl (fun ls hl => ?_)
      refine lv_bipush (v := (-9)) hx hb dX4_costOf_61 (by decide) ?_
      refine lv_bipush (v := 9) hx hb dX4_costOf_63 (by decide) ?_
      refine lv_aload_n hx hb dX4_costOf_65 rfl (lv_at hl 6 rfl) ?_
      refine w_get X hW 8 i hi rfl rfl inG0 8 (by decide) g201 rfl dX4_costOf_66 ?_
      refine va_mmin hx hb (X.1.2.2.1.trans hl.1.symm) X.1.2.2.2.1 (hG _ g409) (hG _ g319) (hG _ g7) (hG _ g320) (Nat.le_of_ble_eq_true rfl) (Nat.le_of_ble_eq_true rfl) (Nat.zero_le _) (Nat.zero_le _) dX4_costOf_69 ?_
      refine va_mmax hx hb (X.1.2.2.1.trans hl.1.symm) X.1.2.2.2.1 (hG _ g410) (hG _ g411) (hG _ g7) (hG _ g412) (Nat.le_of_ble_eq_true rfl) (Nat.le_of_ble_eq_true rfl) (Nat.zero_le _) (Nat.zero_le _) dX4_costOf_72 ?_
      refine lv_topi (fun x8 ex8 => ?_)
      refine lv_istore (lv' := [(8, .int x8), (7, .int 5), (6, .int 15), (5, .int (kBC64 ((J 8 i 10) &&& (f ^^^ (-1))))), (4, .int (kBC64 (f &&& ((J 8 i 10) ^^^ (-1))))), (0, .long (f)), (2, .ref (ad 11 q)), (3, .ref (ad 8 i))]) hx hb dX4_costOf_75 hl (by decide) rfl (fun ls hl => ?_)
      refine lv_bipush (v := 10) hx hb dX4_costOf_77 (by decide) ?_
      refine lv_iload hx hb dX4_costOf_79 (lv_at hl 4 rfl) ?_
      refine lv_imul hx hb dX4_costOf_81 ?_
      refine lv_iconst (v := 3) hx hb dX4_costOf_82 (by decide) ?_
      refine lv_iload hx hb dX4_costOf_83 (lv_at hl 3 rfl) ?_
      refine lv_imul hx hb dX4_costOf_85 ?_
      refine lv_iadd hx hb dX4_costOf_86 ?_
      refine lv_topi (fun x9 ex9 => ?_)
      refine lv_iload hx hb dX4_costOf_87 (lv_at hl 2 rfl) ?_
      refine lv_iadd hx hb dX4_costOf_89 ?_
      refine lv_iload hx hb dX4_costOf_90 (lv_at hl 1 rfl) ?_
      refine lv_iadd hx hb dX4_costOf_92 ?_
      refine lv_iload hx hb dX4_costOf_93 (lv_at hl 0 rfl) ?_
      refine lv_isub hx hb dX4_costOf_95 ?_
      exact w_iret X hr hlk hS (by first | rfl | (simp [kCost, kMin9, kMax9, c_1, c_7, ex8, ex9]; done) | (simp [kCost, kMin9, kMax9, c_1, c_7, ex8, ex9]; rfl)) hW dX4_costOf_96
    · skip
      refine lv_iconst (v := 0) hx hb dX4_costOf_54 (by decide) ?_
      refine lv_goto (tgt := 59) hx hb dX4_costOf_55 (by decide) ?_
      refine lv_istore (lv' := [(7, .int 0), (6, .int 15), (5, .int (kBC64 ((J 8 i 10) &&& (f ^^^ (-1))))), (4, .int (kBC64 (f &&& ((J 8 i 10) ^^^ (-1))))), (0, .long (f)), (2, .ref (ad 11 q)), (3, .ref (ad 8 i))]) hx hb dX4_costOf_59 hl (by decide) rfl (fun ls hl => ?_)
      refine lv_bipush (v := (-9)) hx hb dX4_costOf_61 (by decide) ?_
      refine lv_bipush (v := 9) hx hb dX4_costOf_63 (by decide) ?_
      refine lv_aload_n hx hb dX4_costOf_65 rfl (lv_at hl 6 rfl) ?_
      refine w_get X hW 8 i hi rfl rfl inG0 8 (by decide) g201 rfl dX4_costOf_66 ?_
      refine va_mmin hx hb (X.1.2.2.1.trans hl.1.symm) X.1.2.2.2.1 (hG _ g409) (hG _ g319) (hG _ g7) (hG _ g320) (Nat.le_of_ble_eq_true rfl) (Nat.le_of_ble_eq_true rfl) (Nat.zero_le _) (Nat.zero_le _) dX4_costOf_69 ?_
      refine va_mmax hx hb (X.1.2.2.1.trans hl.1.symm) X.1.2.2.2.1 (hG _ g410) (hG _ g411) (hG _ g7) (hG _ g412) (Nat.le_of_ble_eq_true rfl) (Nat.le_of_ble_eq_true rfl) (Nat.zero_le _) (Nat.zero_le _) dX4_costOf_72 ?_
      refine lv_topi (fun x10 ex10 => ?_)
      refine lv_istore (lv' := [(8, .int x10), (7, .int 0), (6, .int 15), (5, .int (kBC64 ((J 8 i 10) &&& (f ^^^ (-1))))), (4, .int (kBC64 (f &&& ((J 8 i 10) ^^^ (-1))))), (0, .long (f)), (2, .ref (ad 11 q)), (3, .ref (ad 8 i))]) hx hb dX4_costOf_75 hl (by decide) rfl (fun ls hl => ?_)
      refine lv_bipush (v := 10) hx hb dX4_costOf_77 (by decide) ?_
      refine lv_iload hx hb dX4_costOf_79 (lv_at hl 4 rfl) ?_
      refine lv_imul hx hb dX4_costOf_81 ?_
      refine lv_iconst (v := 3) hx hb dX4_costOf_82 (by decide) ?_
      refine lv_iload hx hb dX4_costOf_83 (lv_at hl 3 rfl) ?_
      refine lv_imul hx hb dX4_costOf_85 ?_
      refine lv_iadd hx hb dX4_costOf_86 ?_
      refine lv_topi (fun x11 ex11 => ?_)
      refine lv_iload hx hb dX4_costOf_87 (lv_at hl 2 rfl) ?_
      refine lv_iadd hx hb dX4_costOf_89 ?_
      refine lv_iload hx hb dX4_costOf_90 (lv_at hl 1 rfl) ?_
      refine lv_iadd hx hb dX4_costOf_92 ?_
      refine lv_iload hx hb dX4_costOf_93 (lv_at hl 0 rfl) ?_
      refine lv_isub hx hb dX4_costOf_95 ?_
      exact w_iret X hr hlk hS (by first | rfl | (simp [kCost, kMin9, kMax9, c_1, c_7, ex10, ex11]; done) | (simp [kCost, kMin9, kMax9, c_1, c_7, ex10, ex11]; rfl)) hW dX4_costOf_96
set_option maxHeartbeats 4000000 in
set_option maxRecDepth 100000 in
theorem m_X4_isFound (l : Launch) (G : k_G) (ad : Nat → Nat → Nat) (nA nK : Nat) (I : k_I) (J : k_J) (f : Int64) (q : Nat) (i : Nat) (hq : q < nK) (hi : i < nA) : k_Met l yX4_isFound cX4_isFound 5 (some FieldType.boolean) { frames := 3, cells := 0, slots := 0, locals := 71 } G [.ref (ad 0 0), .long (f), .ref (ad 11 q), .ref (ad 8 i)] (Wd G ad nA nK I J) (some (.int (k_b (kFound I J f q i)))) (Wd G ad nA nK I J) 0 0 := by
  refine k_body (by decide) (Nat.le_of_ble_eq_true rfl) ?_
  intro p e s m below meth c ls X hr hlk hnm hW hS hl
  have hx := X.1.1
  have hb := X.1.2.1
  have hG := X.1.2.2.2.2
  have hl : lv_has ls 5 [(0, .ref (ad 0 0)), (1, .long (f)), (3, .ref (ad 11 q)), (4, .ref (ad 8 i))] := hl
  refine lv_aload hx hb dX4_isFound_0 (lv_at hl 3 rfl) ?_
  refine lv_ifnull hx hb dX4_isFound_2 ?_
  refine lv_aload_n hx hb dX4_isFound_5 rfl (lv_at hl 2 rfl) ?_
  refine lv_aload hx hb dX4_isFound_6 (lv_at hl 3 rfl) ?_
  refine w_cS1 X hS (m_X4_isFit l G ad nA nK I J q i hq hi) rfl rfl g397 g1 g395 g396 hd_X4_isFit ⟨Nat.le_of_ble_eq_true rfl, Nat.le_of_ble_eq_true rfl⟩ hW hl.1 rfl (Nat.le_of_ble_eq_true rfl) dX4_isFound_8 (Nat.zero_le _) (Nat.zero_le _) (fun H locs hW hS => ?_)
  refine lb_if_eq (tgt := 32) hx hb dX4_isFound_11 (by decide) (fun c_1 => ?_) (fun c_1 => ?_)
  · skip
    refine lv_iconst (v := 0) hx hb dX4_isFound_32 (by decide) ?_
    exact w_zret X hr hlk hS (by first | rfl | (simp [kFound, k_b, c_1]; done) | (simp [kFound, k_b, c_1]; rfl)) (k_b_n _) hW dX4_isFound_33
  · skip
    refine lv_lload_n hx hb dX4_isFound_14 rfl (lv_at hl 1 rfl) ?_
    refine lv_aload_n hx hb dX4_isFound_15 rfl (lv_at hl 2 rfl) ?_
    refine lv_aload hx hb dX4_isFound_16 (lv_at hl 3 rfl) ?_
    refine w_cS1 X hS (m_X4_costOf l G ad nA nK I J f q i hq hi) rfl rfl g404 g1 g402 g403 hd_X4_costOf ⟨Nat.le_of_ble_eq_true rfl, Nat.le_of_ble_eq_true rfl⟩ hW hl.1 rfl (Nat.le_of_ble_eq_true rfl) dX4_isFound_18 (Nat.zero_le _) (Nat.zero_le _) (fun H locs hW hS => ?_)
    refine lv_aload_n hx hb dX4_isFound_21 rfl (lv_at hl 0 rfl) ?_
    refine w_get X hW 0 0 Nat.zero_lt_one rfl rfl inG4 7 (by decide) g56 rfl dX4_isFound_22 ?_
    refine lv_icmp_gt (tgt := 32) hx hb dX4_isFound_25 (by decide) (fun c_2 => ?_) (fun c_2 => ?_)
    · skip
      refine lv_iconst (v := 0) hx hb dX4_isFound_32 (by decide) ?_
      exact w_zret X hr hlk hS (by first | rfl | (simp [kFound, k_b, c_1, c_2]; done) | (simp [kFound, k_b, c_1, c_2]; rfl)) (k_b_n _) hW dX4_isFound_33
    · skip
      refine lv_iconst (v := 1) hx hb dX4_isFound_28 (by decide) ?_
      refine lv_goto (tgt := 33) hx hb dX4_isFound_29 (by decide) ?_
      exact w_zret X hr hlk hS (by first | rfl | (simp [kFound, k_b, c_1, c_2]; done) | (simp [kFound, k_b, c_1, c_2]; rfl)) (k_b_n _) hW dX4_isFound_33
set_option maxHeartbeats 4000000 in
set_option maxRecDepth 100000 in
theorem m_X4_findsSome (l : Launch) (G : k_G) (ad : Nat → Nat → Nat) (nA nK : Nat) (I : k_I) (J : k_J) (f : Int64) (q : Nat) (hq : q < nK) (hs : k_S nA nK I) : k_Met l yX4_findsSome cX4_findsSome 5 (some FieldType.boolean) { frames := 4, cells := 0, slots := 0, locals := 95 } G [.ref (ad 0 0), .long (f), .ref (ad 11 q)] (Wd G ad nA nK I J) (some (.int (k_b (kSome nA I J f q)))) (Wd G ad nA nK I J) 0 0 := by
  refine k_body (by decide) (Nat.le_of_ble_eq_true rfl) ?_
  intro p e s m below meth c ls X hr hlk hnm hW hS hl
  have hx := X.1.1
  have hb := X.1.2.1
  have hG := X.1.2.2.2.2
  have hA24 := hs.2.2.1
  have hK30 := hs.2.2.2.1
  have hl : lv_has ls 5 [(0, .ref (ad 0 0)), (1, .long (f)), (3, .ref (ad 11 q))] := hl
  refine lv_iconst (v := 0) hx hb dX4_findsSome_0 (by decide) ?_
  refine lv_istore (lv' := [(4, .int 0), (0, .ref (ad 0 0)), (1, .long (f)), (3, .ref (ad 11 q))]) hx hb dX4_findsSome_1 hl (by decide) rfl (fun ls hl => ?_)
  have loop3 : ∀ (d j : Nat), j + d = nA → (kAny (fun a => kFound I J f q a) d j = kSome nA I J f q) → ∀ (H : Heap) (locs : List Loc), Wd G ad nA nK I J H → va_S (k_A G) s.heap H locs → ∀ ls : Array Slot, lv_has ls 5 [(4, .int (nI j)), (0, .ref (ad 0 0)), (1, .long (f)), (3, .ref (ad 11 q))] → W p l e { frames := 4, cells := 0, slots := 0, locals := 95 } s m ([.ref (ad 0 0), .long (f), .ref (ad 11 q)] : List Value).toArray below meth c H locs 0 0 (MQ below (k_Q G (some (.int (k_b (kSome nA I J f q)))) (Wd G ad nA nK I J)) ([.ref (ad 0 0), .long (f), .ref (ad 11 q)] : List Value).toArray s 0 0 (k_A G)) (F0 m 3 ls []) := by
    intro d
    induction d with
    | zero =>
      intro j hi3 hz3  H locs hW hS ls hl
      refine lv_iload hx hb dX4_findsSome_3 (lv_at hl 0 rfl) ?_
      refine lv_aload_n hx hb dX4_findsSome_5 rfl (lv_at hl 1 rfl) ?_
      refine w_get (v := .int (nI nA)) X hW 0 0 Nat.zero_lt_one rfl rfl inG4 4 (by decide) g53 (congrArg (fun z => some (Value.int z)) hs.1) dX4_findsSome_6 ?_
      refine lv_icmp_ge (tgt := 35) hx hb dX4_findsSome_9 (by decide) (fun _ => ?_) (fun c_1 => absurd (nI_le (a := nA) (b := j) (by omega) (by omega)) c_1)
      refine lv_iconst (v := 0) hx hb dX4_findsSome_35 (by decide) ?_
      exact w_zret X hr hlk hS (by first | exact hz3 | (rw [← hz3]; simp [kAny, k_b]; done) | (simp [← hz3, kAny, k_b]; done) | (rw [← hz3]; simp only [kAny, k_b, eq_self, if_true, if_false, Bool.false_eq_true, decide_true, decide_false, Bool.not_true, Bool.not_false, Bool.false_or, Bool.true_or, Bool.and_true, Bool.true_and, Bool.false_and, Bool.and_false, Bool.or_true, Bool.or_false]; done) | (simp [kAny, k_b]; done)) (k_b_n _) hW dX4_findsSome_36
    | succ d ih =>
      intro j hi3 hz3  H locs hW hS ls hl
      have hlt3 : j < nA := by omega
      have ih3 := ih
      refine lv_iload hx hb dX4_findsSome_3 (lv_at hl 0 rfl) ?_
      refine lv_aload_n hx hb dX4_findsSome_5 rfl (lv_at hl 1 rfl) ?_
      refine w_get (v := .int (nI nA)) X hW 0 0 Nat.zero_lt_one rfl rfl inG4 4 (by decide) g53 (congrArg (fun z => some (Value.int z)) hs.1) dX4_findsSome_6 ?_
      refine lv_icmp_ge (tgt := 35) hx hb dX4_findsSome_9 (by decide) (fun c_2 => absurd c_2 (nI_ge (a := j) (b := nA) (by omega) (by omega))) (fun _ => ?_)
      refine lv_aload_n hx hb dX4_findsSome_12 rfl (lv_at hl 1 rfl) ?_
      refine lv_lload_n hx hb dX4_findsSome_13 rfl (lv_at hl 2 rfl) ?_
      refine lv_aload_n hx hb dX4_findsSome_14 rfl (lv_at hl 3 rfl) ?_
      refine lv_aload_n hx hb dX4_findsSome_15 rfl (lv_at hl 1 rfl) ?_
      refine lv_iload hx hb dX4_findsSome_16 (lv_at hl 0 rfl) ?_
      refine w_cV1 X hS (m_X4_answerAt l G ad nA nK I J (nI j) hs) rfl rfl g99 g1 g96 g98 p1 hd_X4_answerAt ⟨Nat.le_of_ble_eq_true rfl, Nat.le_of_ble_eq_true rfl⟩ (k_rec X hW 0 0 Nat.zero_lt_one rfl rfl) hW hl.1 rfl (Nat.le_of_ble_eq_true rfl) dX4_findsSome_18 (Nat.zero_le _) (Nat.zero_le _) (fun H locs hW hS => ?_)
      rw [kAns_lt (n := nA) (a := j) (by omega) (by omega)]
      refine w_cV1 X hS (m_X4_isFound l G ad nA nK I J f q j hq (show j < nA by omega)) rfl rfl g394 g1 g391 g393 p19 hd_X4_isFound ⟨Nat.le_of_ble_eq_true rfl, Nat.le_of_ble_eq_true rfl⟩ (k_rec X hW 0 0 Nat.zero_lt_one rfl rfl) hW hl.1 rfl (Nat.le_of_ble_eq_true rfl) dX4_findsSome_21 (Nat.zero_le _) (Nat.zero_le _) (fun H locs hW hS => ?_)
      refine lb_if_eq (tgt := 29) hx hb dX4_findsSome_24 (by decide) (fun c_3 => ?_) (fun c_3 => ?_)
      · skip
        refine lv_iinc (v := nI (j + 1)) (lv' := [(4, .int (nI (j + 1))), (0, .ref (ad 0 0)), (1, .long (f)), (3, .ref (ad 11 q))]) hx hb dX4_findsSome_29 hl (k := 0) rfl (nI_1 j) (by decide) rfl (fun ls hl => ?_)
        refine lv_goto (tgt := 3) hx hb dX4_findsSome_32 (by decide) ?_
        exact ih3 (j + 1) (by omega) (by first | exact hz3 | (rw [← hz3]; simp [kAny, k_b, c_3]; done) | (simp [← hz3, kAny, k_b, c_3]; done) | (rw [← hz3]; simp only [kAny, k_b, c_3, eq_self, if_true, if_false, Bool.false_eq_true, decide_true, decide_false, Bool.not_true, Bool.not_false, Bool.false_or, Bool.true_or, Bool.and_true, Bool.true_and, Bool.false_and, Bool.and_false, Bool.or_true, Bool.or_false]; done)) _ _ hW hS ls (lv_sub hl [0, 1, 2, 3] rfl)
      · skip
        refine lv_iconst (v := 1) hx hb dX4_findsSome_27 (by decide) ?_
        exact w_zret X hr hlk hS (by first | exact hz3 | (rw [← hz3]; simp [kAny, k_b, c_3]; done) | (simp [← hz3, kAny, k_b, c_3]; done) | (rw [← hz3]; simp only [kAny, k_b, c_3, eq_self, if_true, if_false, Bool.false_eq_true, decide_true, decide_false, Bool.not_true, Bool.not_false, Bool.false_or, Bool.true_or, Bool.and_true, Bool.true_and, Bool.false_and, Bool.and_false, Bool.or_true, Bool.or_false]; done) | (simp [kAny, k_b, c_3]; done)) (k_b_n _) hW dX4_findsSome_28
  exact loop3 nA 0 (by omega) rfl _ _ hW hS ls (lv_sub hl [0, 1, 2, 3] rfl)
set_option maxHeartbeats 4000000 in
set_option maxRecDepth 100000 in
theorem m_X4_foundCount (l : Launch) (G : k_G) (ad : Nat → Nat → Nat) (nA nK : Nat) (I : k_I) (J : k_J) (q : Nat) (hq : q < nK) (hs : k_S nA nK I) : k_Met l yX4_foundCount cX4_foundCount 4 (some FieldType.int) { frames := 4, cells := 0, slots := 0, locals := 95 } G [.ref (ad 0 0), .ref (ad 11 q)] (Wd G ad nA nK I J) (some (.int (kFoundN nA I J q))) (Wd G ad nA nK I J) 0 0 := by
  refine k_body (by decide) (Nat.le_of_ble_eq_true rfl) ?_
  intro p e s m below meth c ls X hr hlk hnm hW hS hl
  have hx := X.1.1
  have hb := X.1.2.1
  have hG := X.1.2.2.2.2
  have hA24 := hs.2.2.1
  have hK30 := hs.2.2.2.1
  have hl : lv_has ls 4 [(0, .ref (ad 0 0)), (1, .ref (ad 11 q))] := hl
  refine lv_iconst (v := 0) hx hb dX4_foundCount_0 (by decide) ?_
  refine lv_istore_n (lv' := [(2, .int 0), (0, .ref (ad 0 0)), (1, .ref (ad 11 q))]) hx hb dX4_foundCount_1 rfl hl (by decide) rfl (fun ls hl => ?_)
  refine lv_iconst (v := 0) hx hb dX4_foundCount_2 (by decide) ?_
  refine lv_istore_n (lv' := [(3, .int 0), (2, .int 0), (0, .ref (ad 0 0)), (1, .ref (ad 11 q))]) hx hb dX4_foundCount_3 rfl hl (by decide) rfl (fun ls hl => ?_)
  have loop4 : ∀ (d j : Nat) (n : Int32), j + d = nA → (kLoop (fun a n => if kFound I J (J 11 q 2) q a then n + 1 else n) d j n = kFoundN nA I J q) → ∀ (H : Heap) (locs : List Loc), Wd G ad nA nK I J H → va_S (k_A G) s.heap H locs → ∀ ls : Array Slot, lv_has ls 4 [(3, .int (nI j)), (2, .int n), (0, .ref (ad 0 0)), (1, .ref (ad 11 q))] → W p l e { frames := 4, cells := 0, slots := 0, locals := 95 } s m ([.ref (ad 0 0), .ref (ad 11 q)] : List Value).toArray below meth c H locs 0 0 (MQ below (k_Q G (some (.int (kFoundN nA I J q))) (Wd G ad nA nK I J)) ([.ref (ad 0 0), .ref (ad 11 q)] : List Value).toArray s 0 0 (k_A G)) (F0 m 4 ls []) := by
    intro d
    induction d with
    | zero =>
      intro j n hi4 hz4  H locs hW hS ls hl
      refine lv_iload_n hx hb dX4_foundCount_4 rfl (lv_at hl 0 rfl) ?_
      refine lv_aload_n hx hb dX4_foundCount_5 rfl (lv_at hl 2 rfl) ?_
      refine w_get (v := .int (nI nA)) X hW 0 0 Nat.zero_lt_one rfl rfl inG4 4 (by decide) g53 (congrArg (fun z => some (Value.int z)) hs.1) dX4_foundCount_6 ?_
      refine lv_icmp_ge (tgt := 38) hx hb dX4_foundCount_9 (by decide) (fun _ => ?_) (fun c_1 => absurd (nI_le (a := nA) (b := j) (by omega) (by omega)) c_1)
      refine lv_iload_n hx hb dX4_foundCount_38 rfl (lv_at hl 1 rfl) ?_
      exact w_iret X hr hlk hS (by first | exact hz4 | (rw [← hz4]; simp [kLoop]; done) | (simp [← hz4, kLoop]; done) | (rw [← hz4]; simp only [kLoop, eq_self, if_true, if_false, Bool.false_eq_true, decide_true, decide_false, Bool.not_true, Bool.not_false, Bool.false_or, Bool.true_or, Bool.and_true, Bool.true_and, Bool.false_and, Bool.and_false, Bool.or_true, Bool.or_false]; done) | (simp [kLoop]; done)) hW dX4_foundCount_39
    | succ d ih =>
      intro j n hi4 hz4  H locs hW hS ls hl
      have hlt4 : j < nA := by omega
      have ih4 := ih
      refine lv_iload_n hx hb dX4_foundCount_4 rfl (lv_at hl 0 rfl) ?_
      refine lv_aload_n hx hb dX4_foundCount_5 rfl (lv_at hl 2 rfl) ?_
      refine w_get (v := .int (nI nA)) X hW 0 0 Nat.zero_lt_one rfl rfl inG4 4 (by decide) g53 (congrArg (fun z => some (Value.int z)) hs.1) dX4_foundCount_6 ?_
      refine lv_icmp_ge (tgt := 38) hx hb dX4_foundCount_9 (by decide) (fun c_2 => absurd c_2 (nI_ge (a := j) (b := nA) (by omega) (by omega))) (fun _ => ?_)
      refine lv_aload_n hx hb dX4_foundCount_12 rfl (lv_at hl 2 rfl) ?_
      refine lv_aload_n hx hb dX4_foundCount_13 rfl (lv_at hl 3 rfl) ?_
      refine w_get X hW 11 q hq rfl rfl inG1 2 (by decide) g452 rfl dX4_foundCount_14 ?_
      refine lv_aload_n hx hb dX4_foundCount_17 rfl (lv_at hl 3 rfl) ?_
      refine lv_aload_n hx hb dX4_foundCount_18 rfl (lv_at hl 2 rfl) ?_
      refine lv_iload_n hx hb dX4_foundCount_19 rfl (lv_at hl 0 rfl) ?_
      refine w_cV1 X hS (m_X4_answerAt l G ad nA nK I J (nI j) hs) rfl rfl g99 g1 g96 g98 p1 hd_X4_answerAt ⟨Nat.le_of_ble_eq_true rfl, Nat.le_of_ble_eq_true rfl⟩ (k_rec X hW 0 0 Nat.zero_lt_one rfl rfl) hW hl.1 rfl (Nat.le_of_ble_eq_true rfl) dX4_foundCount_20 (Nat.zero_le _) (Nat.zero_le _) (fun H locs hW hS => ?_)
      rw [kAns_lt (n := nA) (a := j) (by omega) (by omega)]
      refine w_cV1 X hS (m_X4_isFound l G ad nA nK I J (J 11 q 2) q j hq (show j < nA by omega)) rfl rfl g394 g1 g391 g393 p19 hd_X4_isFound ⟨Nat.le_of_ble_eq_true rfl, Nat.le_of_ble_eq_true rfl⟩ (k_rec X hW 0 0 Nat.zero_lt_one rfl rfl) hW hl.1 rfl (Nat.le_of_ble_eq_true rfl) dX4_foundCount_23 (Nat.zero_le _) (Nat.zero_le _) (fun H locs hW hS => ?_)
      refine lb_if_eq (tgt := 32) hx hb dX4_foundCount_26 (by decide) (fun c_3 => ?_) (fun c_3 => ?_)
      · skip
        refine lv_iinc (v := nI (j + 1)) (lv' := [(3, .int (nI (j + 1))), (2, .int n), (0, .ref (ad 0 0)), (1, .ref (ad 11 q))]) hx hb dX4_foundCount_32 hl (k := 0) rfl (nI_1 j) (by decide) rfl (fun ls hl => ?_)
        refine lv_goto (tgt := 4) hx hb dX4_foundCount_35 (by decide) ?_
        exact ih4 (j + 1) n (by omega) (by first | exact hz4 | (rw [← hz4]; simp [kLoop, c_3]; done) | (simp [← hz4, kLoop, c_3]; done) | (rw [← hz4]; simp only [kLoop, c_3, eq_self, if_true, if_false, Bool.false_eq_true, decide_true, decide_false, Bool.not_true, Bool.not_false, Bool.false_or, Bool.true_or, Bool.and_true, Bool.true_and, Bool.false_and, Bool.and_false, Bool.or_true, Bool.or_false]; done)) _ _ hW hS ls (lv_sub hl [0, 1, 2, 3] rfl)
      · skip
        refine lv_iinc (v := n + 1) (lv' := [(2, .int (n + 1)), (3, .int (nI j)), (0, .ref (ad 0 0)), (1, .ref (ad 11 q))]) hx hb dX4_foundCount_29 hl (k := 1) rfl rfl (by decide) rfl (fun ls hl => ?_)
        refine lv_iinc (v := nI (j + 1)) (lv' := [(3, .int (nI (j + 1))), (2, .int (n + 1)), (0, .ref (ad 0 0)), (1, .ref (ad 11 q))]) hx hb dX4_foundCount_32 hl (k := 1) rfl (nI_1 j) (by decide) rfl (fun ls hl => ?_)
        refine lv_goto (tgt := 4) hx hb dX4_foundCount_35 (by decide) ?_
        exact ih4 (j + 1) (n + 1) (by omega) (by first | exact hz4 | (rw [← hz4]; simp [kLoop, c_3]; done) | (simp [← hz4, kLoop, c_3]; done) | (rw [← hz4]; simp only [kLoop, c_3, eq_self, if_true, if_false, Bool.false_eq_true, decide_true, decide_false, Bool.not_true, Bool.not_false, Bool.false_or, Bool.true_or, Bool.and_true, Bool.true_and, Bool.false_and, Bool.and_false, Bool.or_true, Bool.or_false]; done)) _ _ hW hS ls (lv_sub hl [0, 1, 2, 3] rfl)
  exact loop4 nA 0 0 (by omega) rfl _ _ hW hS ls (lv_sub hl [0, 1, 2, 3] rfl)
set_option maxHeartbeats 4000000 in
set_option maxRecDepth 100000 in
theorem m_X4_betterCount (l : Launch) (G : k_G) (ad : Nat → Nat → Nat) (nA nK : Nat) (I : k_I) (J : k_J) (q : Nat) (i : Nat) (hq : q < nK) (hi : i < nA) (hs : k_S nA nK I) : k_Met l yX4_betterCount cX4_betterCount 8 (some FieldType.int) { frames := 4, cells := 0, slots := 0, locals := 95 } G [.ref (ad 0 0), .ref (ad 11 q), .ref (ad 8 i)] (Wd G ad nA nK I J) (some (.int (kBetter nA I J q i))) (Wd G ad nA nK I J) 0 0 := by
  refine k_body (by decide) (Nat.le_of_ble_eq_true rfl) ?_
  intro p e s m below meth c ls X hr hlk hnm hW hS hl
  have hx := X.1.1
  have hb := X.1.2.1
  have hG := X.1.2.2.2.2
  have hA24 := hs.2.2.1
  have hK30 := hs.2.2.2.1
  have hl : lv_has ls 8 [(0, .ref (ad 0 0)), (1, .ref (ad 11 q)), (2, .ref (ad 8 i))] := hl
  refine lv_aload_n hx hb dX4_betterCount_0 rfl (lv_at hl 1 rfl) ?_
  refine w_get X hW 11 q hq rfl rfl inG1 2 (by decide) g452 rfl dX4_betterCount_1 ?_
  refine lv_aload_n hx hb dX4_betterCount_4 rfl (lv_at hl 1 rfl) ?_
  refine lv_aload_n hx hb dX4_betterCount_5 rfl (lv_at hl 2 rfl) ?_
  refine w_cS1 X hS (m_X4_costOf l G ad nA nK I J (J 11 q 2) q i hq hi) rfl rfl g404 g1 g402 g403 hd_X4_costOf ⟨Nat.le_of_ble_eq_true rfl, Nat.le_of_ble_eq_true rfl⟩ hW hl.1 rfl (Nat.le_of_ble_eq_true rfl) dX4_betterCount_6 (Nat.zero_le _) (Nat.zero_le _) (fun H locs hW hS => ?_)
  refine lv_istore_n (lv' := [(3, .int (kCost I J (J 11 q 2) q i)), (0, .ref (ad 0 0)), (1, .ref (ad 11 q)), (2, .ref (ad 8 i))]) hx hb dX4_betterCount_9 rfl hl (by decide) rfl (fun ls hl => ?_)
  refine lv_iconst (v := 0) hx hb dX4_betterCount_10 (by decide) ?_
  refine lv_istore (lv' := [(4, .int 0), (3, .int (kCost I J (J 11 q 2) q i)), (0, .ref (ad 0 0)), (1, .ref (ad 11 q)), (2, .ref (ad 8 i))]) hx hb dX4_betterCount_11 hl (by decide) rfl (fun ls hl => ?_)
  refine lv_iconst (v := 0) hx hb dX4_betterCount_13 (by decide) ?_
  refine lv_istore (lv' := [(5, .int 0), (4, .int 0), (3, .int (kCost I J (J 11 q 2) q i)), (0, .ref (ad 0 0)), (1, .ref (ad 11 q)), (2, .ref (ad 8 i))]) hx hb dX4_betterCount_14 hl (by decide) rfl (fun ls hl => ?_)
  have loop16 : ∀ (d j : Nat) (n : Int32), j + d = nA → (kLoop (fun b n => if kBet1 I J q i b then n + 1 else n) d j n = kBetter nA I J q i) → ∀ (H : Heap) (locs : List Loc), Wd G ad nA nK I J H → va_S (k_A G) s.heap H locs → ∀ ls : Array Slot, lv_has ls 8 [(5, .int (nI j)), (4, .int n), (3, .int (kCost I J (J 11 q 2) q i)), (0, .ref (ad 0 0)), (1, .ref (ad 11 q)), (2, .ref (ad 8 i))] → W p l e { frames := 4, cells := 0, slots := 0, locals := 95 } s m ([.ref (ad 0 0), .ref (ad 11 q), .ref (ad 8 i)] : List Value).toArray below meth c H locs 0 0 (MQ below (k_Q G (some (.int (kBetter nA I J q i))) (Wd G ad nA nK I J)) ([.ref (ad 0 0), .ref (ad 11 q), .ref (ad 8 i)] : List Value).toArray s 0 0 (k_A G)) (F0 m 16 ls []) := by
    intro d
    induction d with
    | zero =>
      intro j n hi16 hz16  H locs hW hS ls hl
      refine lv_iload hx hb dX4_betterCount_16 (lv_at hl 0 rfl) ?_
      refine lv_aload_n hx hb dX4_betterCount_18 rfl (lv_at hl 3 rfl) ?_
      refine w_get (v := .int (nI nA)) X hW 0 0 Nat.zero_lt_one rfl rfl inG4 4 (by decide) g53 (congrArg (fun z => some (Value.int z)) hs.1) dX4_betterCount_19 ?_
      refine lv_icmp_ge (tgt := 97) hx hb dX4_betterCount_22 (by decide) (fun _ => ?_) (fun c_1 => absurd (nI_le (a := nA) (b := j) (by omega) (by omega)) c_1)
      refine lv_iload hx hb dX4_betterCount_97 (lv_at hl 1 rfl) ?_
      exact w_iret X hr hlk hS (by first | exact hz16 | (rw [← hz16]; simp [kLoop, kBet1]; done) | (simp [← hz16, kLoop, kBet1]; done) | (rw [← hz16]; simp only [kLoop, kBet1, eq_self, if_true, if_false, Bool.false_eq_true, decide_true, decide_false, Bool.not_true, Bool.not_false, Bool.false_or, Bool.true_or, Bool.and_true, Bool.true_and, Bool.false_and, Bool.and_false, Bool.or_true, Bool.or_false]; done) | (simp [kLoop, kBet1]; done)) hW dX4_betterCount_99
    | succ d ih =>
      intro j n hi16 hz16  H locs hW hS ls hl
      have hlt16 : j < nA := by omega
      have ih16 := ih
      refine lv_iload hx hb dX4_betterCount_16 (lv_at hl 0 rfl) ?_
      refine lv_aload_n hx hb dX4_betterCount_18 rfl (lv_at hl 3 rfl) ?_
      refine w_get (v := .int (nI nA)) X hW 0 0 Nat.zero_lt_one rfl rfl inG4 4 (by decide) g53 (congrArg (fun z => some (Value.int z)) hs.1) dX4_betterCount_19 ?_
      refine lv_icmp_ge (tgt := 97) hx hb dX4_betterCount_22 (by decide) (fun c_2 => absurd c_2 (nI_ge (a := j) (b := nA) (by omega) (by omega))) (fun _ => ?_)
      refine lv_aload_n hx hb dX4_betterCount_25 rfl (lv_at hl 3 rfl) ?_
      refine lv_iload hx hb dX4_betterCount_26 (lv_at hl 0 rfl) ?_
      refine w_cV1 X hS (m_X4_answerAt l G ad nA nK I J (nI j) hs) rfl rfl g99 g1 g96 g98 p1 hd_X4_answerAt ⟨Nat.le_of_ble_eq_true rfl, Nat.le_of_ble_eq_true rfl⟩ (k_rec X hW 0 0 Nat.zero_lt_one rfl rfl) hW hl.1 rfl (Nat.le_of_ble_eq_true rfl) dX4_betterCount_28 (Nat.zero_le _) (Nat.zero_le _) (fun H locs hW hS => ?_)
      rw [kAns_lt (n := nA) (a := j) (by omega) (by omega)]
      refine lv_astore (lv' := [(6, .ref (ad 8 j)), (5, .int (nI j)), (4, .int n), (3, .int (kCost I J (J 11 q 2) q i)), (0, .ref (ad 0 0)), (1, .ref (ad 11 q)), (2, .ref (ad 8 i))]) hx hb dX4_betterCount_31 hl (by decide) rfl (fun ls hl => ?_)
      refine lv_aload hx hb dX4_betterCount_33 (lv_at hl 0 rfl) ?_
      refine lv_ifnull hx hb dX4_betterCount_35 ?_
      refine lv_aload_n hx hb dX4_betterCount_38 rfl (lv_at hl 4 rfl) ?_
      refine lv_aload_n hx hb dX4_betterCount_39 rfl (lv_at hl 5 rfl) ?_
      refine w_get X hW 11 q hq rfl rfl inG1 2 (by decide) g452 rfl dX4_betterCount_40 ?_
      refine lv_aload_n hx hb dX4_betterCount_43 rfl (lv_at hl 5 rfl) ?_
      refine lv_aload hx hb dX4_betterCount_44 (lv_at hl 0 rfl) ?_
      refine w_cV1 X hS (m_X4_isFound l G ad nA nK I J (J 11 q 2) q j hq (show j < nA by omega)) rfl rfl g394 g1 g391 g393 p19 hd_X4_isFound ⟨Nat.le_of_ble_eq_true rfl, Nat.le_of_ble_eq_true rfl⟩ (k_rec X hW 0 0 Nat.zero_lt_one rfl rfl) hW hl.1 rfl (Nat.le_of_ble_eq_true rfl) dX4_betterCount_46 (Nat.zero_le _) (Nat.zero_le _) (fun H locs hW hS => ?_)
      refine lb_if_eq (tgt := 91) hx hb dX4_betterCount_49 (by decide) (fun c_3 => ?_) (fun c_3 => ?_)
      · skip
        refine lv_iinc (v := nI (j + 1)) (lv' := [(5, .int (nI (j + 1))), (6, .ref (ad 8 j)), (4, .int n), (3, .int (kCost I J (J 11 q 2) q i)), (0, .ref (ad 0 0)), (1, .ref (ad 11 q)), (2, .ref (ad 8 i))]) hx hb dX4_betterCount_91 hl (k := 1) rfl (nI_1 j) (by decide) rfl (fun ls hl => ?_)
        refine lv_goto (tgt := 16) hx hb dX4_betterCount_94 (by decide) ?_
        exact ih16 (j + 1) n (by omega) (by first | exact hz16 | (rw [← hz16]; simp [kLoop, kBet1, c_3]; done) | (simp [← hz16, kLoop, kBet1, c_3]; done) | (rw [← hz16]; simp only [kLoop, kBet1, c_3, eq_self, if_true, if_false, Bool.false_eq_true, decide_true, decide_false, Bool.not_true, Bool.not_false, Bool.false_or, Bool.true_or, Bool.and_true, Bool.true_and, Bool.false_and, Bool.and_false, Bool.or_true, Bool.or_false]; done)) _ _ hW hS ls (lv_sub hl [0, 2, 3, 4, 5, 6] rfl)
      · skip
        refine lv_aload_n hx hb dX4_betterCount_52 rfl (lv_at hl 5 rfl) ?_
        refine w_get X hW 11 q hq rfl rfl inG1 2 (by decide) g452 rfl dX4_betterCount_53 ?_
        refine lv_aload_n hx hb dX4_betterCount_56 rfl (lv_at hl 5 rfl) ?_
        refine lv_aload hx hb dX4_betterCount_57 (lv_at hl 0 rfl) ?_
        refine w_cS1 X hS (m_X4_costOf l G ad nA nK I J (J 11 q 2) q j hq (show j < nA by omega)) rfl rfl g404 g1 g402 g403 hd_X4_costOf ⟨Nat.le_of_ble_eq_true rfl, Nat.le_of_ble_eq_true rfl⟩ hW hl.1 rfl (Nat.le_of_ble_eq_true rfl) dX4_betterCount_59 (Nat.zero_le _) (Nat.zero_le _) (fun H locs hW hS => ?_)
        refine lv_istore (lv' := [(7, .int (kCost I J (J 11 q 2) q j)), (6, .ref (ad 8 j)), (5, .int (nI j)), (4, .int n), (3, .int (kCost I J (J 11 q 2) q i)), (0, .ref (ad 0 0)), (1, .ref (ad 11 q)), (2, .ref (ad 8 i))]) hx hb dX4_betterCount_62 hl (by decide) rfl (fun ls hl => ?_)
        refine lv_iload hx hb dX4_betterCount_64 (lv_at hl 0 rfl) ?_
        refine lv_iload_n hx hb dX4_betterCount_66 rfl (lv_at hl 4 rfl) ?_
        refine lv_icmp_lt (tgt := 88) hx hb dX4_betterCount_67 (by decide) (fun c_4 => ?_) (fun c_4 => ?_)
        · skip
          refine lv_iinc (v := n + 1) (lv' := [(4, .int (n + 1)), (7, .int (kCost I J (J 11 q 2) q j)), (6, .ref (ad 8 j)), (5, .int (nI j)), (3, .int (kCost I J (J 11 q 2) q i)), (0, .ref (ad 0 0)), (1, .ref (ad 11 q)), (2, .ref (ad 8 i))]) hx hb dX4_betterCount_88 hl (k := 3) rfl rfl (by decide) rfl (fun ls hl => ?_)
          refine lv_iinc (v := nI (j + 1)) (lv' := [(5, .int (nI (j + 1))), (4, .int (n + 1)), (7, .int (kCost I J (J 11 q 2) q j)), (6, .ref (ad 8 j)), (3, .int (kCost I J (J 11 q 2) q i)), (0, .ref (ad 0 0)), (1, .ref (ad 11 q)), (2, .ref (ad 8 i))]) hx hb dX4_betterCount_91 hl (k := 3) rfl (nI_1 j) (by decide) rfl (fun ls hl => ?_)
          refine lv_goto (tgt := 16) hx hb dX4_betterCount_94 (by decide) ?_
          exact ih16 (j + 1) (n + 1) (by omega) (by first | exact hz16 | (rw [← hz16]; simp [kLoop, kBet1, c_3, c_4]; done) | (simp [← hz16, kLoop, kBet1, c_3, c_4]; done) | (rw [← hz16]; simp only [kLoop, kBet1, c_3, c_4, eq_self, if_true, if_false, Bool.false_eq_true, decide_true, decide_false, Bool.not_true, Bool.not_false, Bool.false_or, Bool.true_or, Bool.and_true, Bool.true_and, Bool.false_and, Bool.and_false, Bool.or_true, Bool.or_false]; done)) _ _ hW hS ls (lv_sub hl [0, 1, 4, 5, 6, 7] rfl)
        · skip
          refine lv_iload hx hb dX4_betterCount_70 (lv_at hl 0 rfl) ?_
          refine lv_iload_n hx hb dX4_betterCount_72 rfl (lv_at hl 4 rfl) ?_
          refine lv_icmp_ne (tgt := 91) hx hb dX4_betterCount_73 (by decide) (fun c_5 => ?_) (fun c_5 => ?_)
          · skip
            refine lv_iinc (v := nI (j + 1)) (lv' := [(5, .int (nI (j + 1))), (7, .int (kCost I J (J 11 q 2) q j)), (6, .ref (ad 8 j)), (4, .int n), (3, .int (kCost I J (J 11 q 2) q i)), (0, .ref (ad 0 0)), (1, .ref (ad 11 q)), (2, .ref (ad 8 i))]) hx hb dX4_betterCount_91 hl (k := 2) rfl (nI_1 j) (by decide) rfl (fun ls hl => ?_)
            refine lv_goto (tgt := 16) hx hb dX4_betterCount_94 (by decide) ?_
            exact ih16 (j + 1) n (by omega) (by first | exact hz16 | (rw [← hz16]; simp [kLoop, kBet1, c_3, c_4, c_5]; done) | (simp [← hz16, kLoop, kBet1, c_3, c_4, c_5]; done) | (rw [← hz16]; simp only [kLoop, kBet1, c_3, c_4, c_5, eq_self, if_true, if_false, Bool.false_eq_true, decide_true, decide_false, Bool.not_true, Bool.not_false, Bool.false_or, Bool.true_or, Bool.and_true, Bool.true_and, Bool.false_and, Bool.and_false, Bool.or_true, Bool.or_false]; done)) _ _ hW hS ls (lv_sub hl [0, 3, 4, 5, 6, 7] rfl)
          · skip
            refine lv_aload hx hb dX4_betterCount_76 (lv_at hl 1 rfl) ?_
            refine w_get X hW 8 j (show j < nA by omega) rfl rfl inG0 0 (by decide) g187 rfl dX4_betterCount_78 ?_
            refine lv_aload_n hx hb dX4_betterCount_81 rfl (lv_at hl 7 rfl) ?_
            refine w_get X hW 8 i hi rfl rfl inG0 0 (by decide) g187 rfl dX4_betterCount_82 ?_
            refine lv_icmp_ge (tgt := 91) hx hb dX4_betterCount_85 (by decide) (fun c_6 => ?_) (fun c_6 => ?_)
            · skip
              refine lv_iinc (v := nI (j + 1)) (lv' := [(5, .int (nI (j + 1))), (7, .int (kCost I J (J 11 q 2) q j)), (6, .ref (ad 8 j)), (4, .int n), (3, .int (kCost I J (J 11 q 2) q i)), (0, .ref (ad 0 0)), (1, .ref (ad 11 q)), (2, .ref (ad 8 i))]) hx hb dX4_betterCount_91 hl (k := 2) rfl (nI_1 j) (by decide) rfl (fun ls hl => ?_)
              refine lv_goto (tgt := 16) hx hb dX4_betterCount_94 (by decide) ?_
              exact ih16 (j + 1) n (by omega) (by first | exact hz16 | (rw [← hz16]; simp [kLoop, kBet1, c_3, c_4, c_5, c_6]; done) | (simp [← hz16, kLoop, kBet1, c_3, c_4, c_5, c_6]; done) | (rw [← hz16]; simp only [kLoop, kBet1, c_3, c_4, c_5, c_6, eq_self, if_true, if_false, Bool.false_eq_true, decide_true, decide_false, Bool.not_true, Bool.not_false, Bool.false_or, Bool.true_or, Bool.and_true, Bool.true_and, Bool.false_and, Bool.and_false, Bool.or_true, Bool.or_false]; done)) _ _ hW hS ls (lv_sub hl [0, 3, 4, 5, 6, 7] rfl)
            · skip
              refine lv_iinc (v := n + 1) (lv' := [(4, .int (n + 1)), (7, .int (kCost I J (J 11 q 2) q j)), (6, .ref (ad 8 j)), (5, .int (nI j)), (3, .int (kCost I J (J 11 q 2) q i)), (0, .ref (ad 0 0)), (1, .ref (ad 11 q)), (2, .ref (ad 8 i))]) hx hb dX4_betterCount_88 hl (k := 3) rfl rfl (by decide) rfl (fun ls hl => ?_)
              refine lv_iinc (v := nI (j + 1)) (lv' := [(5, .int (nI (j + 1))), (4, .int (n + 1)), (7, .int (kCost I J (J 11 q 2) q j)), (6, .ref (ad 8 j)), (3, .int (kCost I J (J 11 q 2) q i)), (0, .ref (ad 0 0)), (1, .ref (ad 11 q)), (2, .ref (ad 8 i))]) hx hb dX4_betterCount_91 hl (k := 3) rfl (nI_1 j) (by decide) rfl (fun ls hl => ?_)
              refine lv_goto (tgt := 16) hx hb dX4_betterCount_94 (by decide) ?_
              exact ih16 (j + 1) (n + 1) (by omega) (by first | exact hz16 | (rw [← hz16]; simp [kLoop, kBet1, c_3, c_4, c_5, c_6]; done) | (simp [← hz16, kLoop, kBet1, c_3, c_4, c_5, c_6]; done) | (rw [← hz16]; simp only [kLoop, kBet1, c_3, c_4, c_5, c_6, eq_self, if_true, if_false, Bool.false_eq_true, decide_true, decide_false, Bool.not_true, Bool.not_false, Bool.false_or, Bool.true_or, Bool.and_true, Bool.true_and, Bool.false_and, Bool.and_false, Bool.or_true, Bool.or_false]; done)) _ _ hW hS ls (lv_sub hl [0, 1, 4, 5, 6, 7] rfl)
  exact loop16 nA 0 0 (by omega) rfl _ _ hW hS ls (lv_sub hl [0, 1, 2, 3, 4, 5] rfl)
set_option maxHeartbeats 4000000 in
set_option maxRecDepth 100000 in
theorem m_X4_foundAt (l : Launch) (G : k_G) (ad : Nat → Nat → Nat) (nA nK : Nat) (I : k_I) (J : k_J) (q : Nat) (k : Int32) (hq : q < nK) (hs : k_S nA nK I) : k_Met l yX4_foundAt cX4_foundAt 5 (some (FieldType.object "AnswerKeeper$Answer")) { frames := 5, cells := 0, slots := 0, locals := 122 } G [.ref (ad 0 0), .ref (ad 11 q), .int k] (Wd G ad nA nK I J) (some (va_rf (Option.map (ad 8) (kFoundAt nA I J q k)))) (Wd G ad nA nK I J) 0 0 := by
  refine k_body (by decide) (Nat.le_of_ble_eq_true rfl) ?_
  intro p e s m below meth c ls X hr hlk hnm hW hS hl
  have hx := X.1.1
  have hb := X.1.2.1
  have hG := X.1.2.2.2.2
  have hA24 := hs.2.2.1
  have hK30 := hs.2.2.2.1
  have hl : lv_has ls 5 [(0, .ref (ad 0 0)), (1, .ref (ad 11 q)), (2, .int k)] := hl
  refine lv_iconst (v := 0) hx hb dX4_foundAt_0 (by decide) ?_
  refine lv_istore_n (lv' := [(3, .int 0), (0, .ref (ad 0 0)), (1, .ref (ad 11 q)), (2, .int k)]) hx hb dX4_foundAt_1 rfl hl (by decide) rfl (fun ls hl => ?_)
  have loop2 : ∀ (d j : Nat), j + d = nA → (kFind (fun a => kFound I J (J 11 q 2) q a && decide (kBetter nA I J q a = k)) d j = kFoundAt nA I J q k) → ∀ (H : Heap) (locs : List Loc), Wd G ad nA nK I J H → va_S (k_A G) s.heap H locs → ∀ ls : Array Slot, lv_has ls 5 [(3, .int (nI j)), (0, .ref (ad 0 0)), (1, .ref (ad 11 q)), (2, .int k)] → W p l e { frames := 5, cells := 0, slots := 0, locals := 122 } s m ([.ref (ad 0 0), .ref (ad 11 q), .int k] : List Value).toArray below meth c H locs 0 0 (MQ below (k_Q G (some (va_rf (Option.map (ad 8) (kFoundAt nA I J q k)))) (Wd G ad nA nK I J)) ([.ref (ad 0 0), .ref (ad 11 q), .int k] : List Value).toArray s 0 0 (k_A G)) (F0 m 2 ls []) := by
    intro d
    induction d with
    | zero =>
      intro j hi2 hz2  H locs hW hS ls hl
      refine lv_iload_n hx hb dX4_foundAt_2 rfl (lv_at hl 0 rfl) ?_
      refine lv_aload_n hx hb dX4_foundAt_3 rfl (lv_at hl 1 rfl) ?_
      refine w_get (v := .int (nI nA)) X hW 0 0 Nat.zero_lt_one rfl rfl inG4 4 (by decide) g53 (congrArg (fun z => some (Value.int z)) hs.1) dX4_foundAt_4 ?_
      refine lv_icmp_ge (tgt := 56) hx hb dX4_foundAt_7 (by decide) (fun _ => ?_) (fun c_1 => absurd (nI_le (a := nA) (b := j) (by omega) (by omega)) c_1)
      refine lv_null hx hb dX4_foundAt_56 ?_
      exact w_aret X hr hlk hS (by first | exact hz2 | (rw [← hz2]; simp [kFind, va_rf]; done) | (simp [← hz2, kFind, va_rf]; done) | (rw [← hz2]; simp only [kFind, va_rf, eq_self, if_true, if_false, Bool.false_eq_true, decide_true, decide_false, Bool.not_true, Bool.not_false, Bool.false_or, Bool.true_or, Bool.and_true, Bool.true_and, Bool.false_and, Bool.and_false, Bool.or_true, Bool.or_false]; done) | (simp [kFind, va_rf]; done)) hW dX4_foundAt_57
    | succ d ih =>
      intro j hi2 hz2  H locs hW hS ls hl
      have hlt2 : j < nA := by omega
      have ih2 := ih
      refine lv_iload_n hx hb dX4_foundAt_2 rfl (lv_at hl 0 rfl) ?_
      refine lv_aload_n hx hb dX4_foundAt_3 rfl (lv_at hl 1 rfl) ?_
      refine w_get (v := .int (nI nA)) X hW 0 0 Nat.zero_lt_one rfl rfl inG4 4 (by decide) g53 (congrArg (fun z => some (Value.int z)) hs.1) dX4_foundAt_4 ?_
      refine lv_icmp_ge (tgt := 56) hx hb dX4_foundAt_7 (by decide) (fun c_2 => absurd c_2 (nI_ge (a := j) (b := nA) (by omega) (by omega))) (fun _ => ?_)
      refine lv_aload_n hx hb dX4_foundAt_10 rfl (lv_at hl 1 rfl) ?_
      refine lv_iload_n hx hb dX4_foundAt_11 rfl (lv_at hl 0 rfl) ?_
      refine w_cV1 X hS (m_X4_answerAt l G ad nA nK I J (nI j) hs) rfl rfl g99 g1 g96 g98 p1 hd_X4_answerAt ⟨Nat.le_of_ble_eq_true rfl, Nat.le_of_ble_eq_true rfl⟩ (k_rec X hW 0 0 Nat.zero_lt_one rfl rfl) hW hl.1 rfl (Nat.le_of_ble_eq_true rfl) dX4_foundAt_12 (Nat.zero_le _) (Nat.zero_le _) (fun H locs hW hS => ?_)
      rw [kAns_lt (n := nA) (a := j) (by omega) (by omega)]
      refine lv_astore (lv' := [(4, .ref (ad 8 j)), (3, .int (nI j)), (0, .ref (ad 0 0)), (1, .ref (ad 11 q)), (2, .int k)]) hx hb dX4_foundAt_15 hl (by decide) rfl (fun ls hl => ?_)
      refine lv_aload hx hb dX4_foundAt_17 (lv_at hl 0 rfl) ?_
      refine lv_ifnull hx hb dX4_foundAt_19 ?_
      refine lv_aload_n hx hb dX4_foundAt_22 rfl (lv_at hl 2 rfl) ?_
      refine lv_aload_n hx hb dX4_foundAt_23 rfl (lv_at hl 3 rfl) ?_
      refine w_get X hW 11 q hq rfl rfl inG1 2 (by decide) g452 rfl dX4_foundAt_24 ?_
      refine lv_aload_n hx hb dX4_foundAt_27 rfl (lv_at hl 3 rfl) ?_
      refine lv_aload hx hb dX4_foundAt_28 (lv_at hl 0 rfl) ?_
      refine w_cV1 X hS (m_X4_isFound l G ad nA nK I J (J 11 q 2) q j hq (show j < nA by omega)) rfl rfl g394 g1 g391 g393 p19 hd_X4_isFound ⟨Nat.le_of_ble_eq_true rfl, Nat.le_of_ble_eq_true rfl⟩ (k_rec X hW 0 0 Nat.zero_lt_one rfl rfl) hW hl.1 rfl (Nat.le_of_ble_eq_true rfl) dX4_foundAt_30 (Nat.zero_le _) (Nat.zero_le _) (fun H locs hW hS => ?_)
      refine lb_if_eq (tgt := 50) hx hb dX4_foundAt_33 (by decide) (fun c_3 => ?_) (fun c_3 => ?_)
      · skip
        refine lv_iinc (v := nI (j + 1)) (lv' := [(3, .int (nI (j + 1))), (4, .ref (ad 8 j)), (0, .ref (ad 0 0)), (1, .ref (ad 11 q)), (2, .int k)]) hx hb dX4_foundAt_50 hl (k := 1) rfl (nI_1 j) (by decide) rfl (fun ls hl => ?_)
        refine lv_goto (tgt := 2) hx hb dX4_foundAt_53 (by decide) ?_
        exact ih2 (j + 1) (by omega) (by first | exact hz2 | (rw [← hz2]; simp [kFind, va_rf, c_3]; done) | (simp [← hz2, kFind, va_rf, c_3]; done) | (rw [← hz2]; simp only [kFind, va_rf, c_3, eq_self, if_true, if_false, Bool.false_eq_true, decide_true, decide_false, Bool.not_true, Bool.not_false, Bool.false_or, Bool.true_or, Bool.and_true, Bool.true_and, Bool.false_and, Bool.and_false, Bool.or_true, Bool.or_false]; done)) _ _ hW hS ls (lv_sub hl [0, 2, 3, 4] rfl)
      · skip
        refine lv_aload_n hx hb dX4_foundAt_36 rfl (lv_at hl 2 rfl) ?_
        refine lv_aload_n hx hb dX4_foundAt_37 rfl (lv_at hl 3 rfl) ?_
        refine lv_aload hx hb dX4_foundAt_38 (lv_at hl 0 rfl) ?_
        refine w_cV1 X hS (m_X4_betterCount l G ad nA nK I J q j hq (show j < nA by omega) hs) rfl rfl g471 g1 g468 g470 p25 hd_X4_betterCount ⟨Nat.le_of_ble_eq_true rfl, Nat.le_of_ble_eq_true rfl⟩ (k_rec X hW 0 0 Nat.zero_lt_one rfl rfl) hW hl.1 rfl (Nat.le_of_ble_eq_true rfl) dX4_foundAt_40 (Nat.zero_le _) (Nat.zero_le _) (fun H locs hW hS => ?_)
        refine lv_iload_n hx hb dX4_foundAt_43 rfl (lv_at hl 4 rfl) ?_
        refine lv_icmp_ne (tgt := 50) hx hb dX4_foundAt_44 (by decide) (fun c_4 => ?_) (fun c_4 => ?_)
        · skip
          refine lv_iinc (v := nI (j + 1)) (lv' := [(3, .int (nI (j + 1))), (4, .ref (ad 8 j)), (0, .ref (ad 0 0)), (1, .ref (ad 11 q)), (2, .int k)]) hx hb dX4_foundAt_50 hl (k := 1) rfl (nI_1 j) (by decide) rfl (fun ls hl => ?_)
          refine lv_goto (tgt := 2) hx hb dX4_foundAt_53 (by decide) ?_
          exact ih2 (j + 1) (by omega) (by first | exact hz2 | (rw [← hz2]; simp [kFind, va_rf, c_3, c_4]; done) | (simp [← hz2, kFind, va_rf, c_3, c_4]; done) | (rw [← hz2]; simp only [kFind, va_rf, c_3, c_4, eq_self, if_true, if_false, Bool.false_eq_true, decide_true, decide_false, Bool.not_true, Bool.not_false, Bool.false_or, Bool.true_or, Bool.and_true, Bool.true_and, Bool.false_and, Bool.and_false, Bool.or_true, Bool.or_false]; done)) _ _ hW hS ls (lv_sub hl [0, 2, 3, 4] rfl)
        · skip
          refine lv_aload hx hb dX4_foundAt_47 (lv_at hl 0 rfl) ?_
          exact w_aret X hr hlk hS (by first | exact hz2 | (rw [← hz2]; simp [kFind, va_rf, c_3, c_4]; done) | (simp [← hz2, kFind, va_rf, c_3, c_4]; done) | (rw [← hz2]; simp only [kFind, va_rf, c_3, c_4, eq_self, if_true, if_false, Bool.false_eq_true, decide_true, decide_false, Bool.not_true, Bool.not_false, Bool.false_or, Bool.true_or, Bool.and_true, Bool.true_and, Bool.false_and, Bool.and_false, Bool.or_true, Bool.or_false]; done) | (simp [kFind, va_rf, c_3, c_4]; done)) hW dX4_foundAt_49
  exact loop2 nA 0 (by omega) rfl _ _ hW hS ls (lv_sub hl [0, 1, 2, 3] rfl)
set_option maxHeartbeats 4000000 in
set_option maxRecDepth 100000 in
theorem m_X4_helpFor (l : Launch) (G : k_G) (ad : Nat → Nat → Nat) (nA nK : Nat) (I : k_I) (J : k_J) (q : Nat) (hq : q < nK) (hs : k_S nA nK I) : k_Met l yX4_helpFor cX4_helpFor 3 (some FieldType.int) { frames := 5, cells := 0, slots := 0, locals := 119 } G [.ref (ad 0 0), .ref (ad 11 q)] (Wd G ad nA nK I J) (some (.int (kHelp nA I J q))) (Wd G ad nA nK I J) 0 0 := by
  refine k_body (by decide) (Nat.le_of_ble_eq_true rfl) ?_
  intro p e s m below meth c ls X hr hlk hnm hW hS hl
  have hx := X.1.1
  have hb := X.1.2.1
  have hG := X.1.2.2.2.2
  have hA24 := hs.2.2.1
  have hK30 := hs.2.2.2.1
  have hl : lv_has ls 3 [(0, .ref (ad 0 0)), (1, .ref (ad 11 q))] := hl
  refine lv_iconst (v := 0) hx hb dX4_helpFor_0 (by decide) ?_
  refine lv_istore_n (lv' := [(2, .int 0), (0, .ref (ad 0 0)), (1, .ref (ad 11 q))]) hx hb dX4_helpFor_1 rfl hl (by decide) rfl (fun ls hl => ?_)
  have loop2 : ∀ (d j : Nat), j + d = 40 → (kFindI (fun w => kSome nA I J (kFold (I 2 0) (J 11 q 0 ||| (1 <<< (Int32.toInt64 (nI w) &&& 63)))) q) d j = kHelp nA I J q) → ∀ (H : Heap) (locs : List Loc), Wd G ad nA nK I J H → va_S (k_A G) s.heap H locs → ∀ ls : Array Slot, lv_has ls 3 [(2, .int (nI j)), (0, .ref (ad 0 0)), (1, .ref (ad 11 q))] → W p l e { frames := 5, cells := 0, slots := 0, locals := 119 } s m ([.ref (ad 0 0), .ref (ad 11 q)] : List Value).toArray below meth c H locs 0 0 (MQ below (k_Q G (some (.int (kHelp nA I J q))) (Wd G ad nA nK I J)) ([.ref (ad 0 0), .ref (ad 11 q)] : List Value).toArray s 0 0 (k_A G)) (F0 m 2 ls []) := by
    intro d
    induction d with
    | zero =>
      intro j hi2 hz2  H locs hW hS ls hl
      refine lv_iload_n hx hb dX4_helpFor_2 rfl (lv_at hl 0 rfl) ?_
      refine lv_bipush (v := 40) hx hb dX4_helpFor_3 (by decide) ?_
      refine lv_icmp_ge (tgt := 39) hx hb dX4_helpFor_5 (by decide) (fun _ => ?_) (fun c_1 => absurd (nI_le (a := 40) (b := j) (by omega) (by omega)) c_1)
      refine lv_iconst (v := (-1)) hx hb dX4_helpFor_39 (by decide) ?_
      exact w_iret X hr hlk hS (by first | exact hz2 | (rw [← hz2]; simp [kFindI]; done) | (simp [← hz2, kFindI]; done) | (rw [← hz2]; simp only [kFindI, eq_self, if_true, if_false, Bool.false_eq_true, decide_true, decide_false, Bool.not_true, Bool.not_false, Bool.false_or, Bool.true_or, Bool.and_true, Bool.true_and, Bool.false_and, Bool.and_false, Bool.or_true, Bool.or_false]; done) | (simp [kFindI]; done)) hW dX4_helpFor_40
    | succ d ih =>
      intro j hi2 hz2  H locs hW hS ls hl
      have hlt2 : j < 40 := by omega
      have ih2 := ih
      refine lv_iload_n hx hb dX4_helpFor_2 rfl (lv_at hl 0 rfl) ?_
      refine lv_bipush (v := 40) hx hb dX4_helpFor_3 (by decide) ?_
      refine lv_icmp_ge (tgt := 39) hx hb dX4_helpFor_5 (by decide) (fun c_2 => absurd c_2 (nI_ge (a := j) (b := 40) (by omega) (by omega))) (fun _ => ?_)
      refine lv_aload_n hx hb dX4_helpFor_8 rfl (lv_at hl 1 rfl) ?_
      refine lv_aload_n hx hb dX4_helpFor_9 rfl (lv_at hl 1 rfl) ?_
      refine w_get X hW 0 0 Nat.zero_lt_one rfl rfl inG4 0 (by decide) g49 rfl dX4_helpFor_10 ?_
      refine lv_aload_n hx hb dX4_helpFor_13 rfl (lv_at hl 2 rfl) ?_
      refine w_get X hW 11 q hq rfl rfl inG1 0 (by decide) g449 rfl dX4_helpFor_14 ?_
      refine lv_lconst (v := 1) hx hb dX4_helpFor_17 (by decide) ?_
      refine lv_iload_n hx hb dX4_helpFor_18 rfl (lv_at hl 0 rfl) ?_
      refine lv_lshl (v := 1 <<< (Int32.toInt64 (nI j) &&& 63)) hx hb dX4_helpFor_19 rfl ?_
      refine lv_lor hx hb dX4_helpFor_20 ?_
      refine w_cV1 X hS (m_X2_folded l G ad nA nK I J ((J 11 q 0) ||| (1 <<< (Int32.toInt64 (nI j) &&& 63))) ) rfl rfl g114 g2 g111 g112 g113 hd_X2_folded ⟨Nat.le_of_ble_eq_true rfl, Nat.le_of_ble_eq_true rfl⟩ (k_rec X hW 1 0 Nat.zero_lt_one rfl rfl) hW hl.1 rfl (Nat.le_of_ble_eq_true rfl) dX4_helpFor_21 (Nat.zero_le _) (Nat.zero_le _) (fun H locs hW hS => ?_)
      refine lv_aload_n hx hb dX4_helpFor_24 rfl (lv_at hl 2 rfl) ?_
      refine w_cV1 X hS (m_X4_findsSome l G ad nA nK I J (kFold (I 2 0) ((J 11 q 0) ||| (1 <<< (Int32.toInt64 (nI j) &&& 63)))) q hq hs) rfl rfl g390 g1 g387 g389 p18 hd_X4_findsSome ⟨Nat.le_of_ble_eq_true rfl, Nat.le_of_ble_eq_true rfl⟩ (k_rec X hW 0 0 Nat.zero_lt_one rfl rfl) hW hl.1 rfl (Nat.le_of_ble_eq_true rfl) dX4_helpFor_25 (Nat.zero_le _) (Nat.zero_le _) (fun H locs hW hS => ?_)
      refine lb_if_eq (tgt := 33) hx hb dX4_helpFor_28 (by decide) (fun c_3 => ?_) (fun c_3 => ?_)
      · skip
        refine lv_iinc (v := nI (j + 1)) (lv' := [(2, .int (nI (j + 1))), (0, .ref (ad 0 0)), (1, .ref (ad 11 q))]) hx hb dX4_helpFor_33 hl (k := 0) rfl (nI_1 j) (by decide) rfl (fun ls hl => ?_)
        refine lv_goto (tgt := 2) hx hb dX4_helpFor_36 (by decide) ?_
        exact ih2 (j + 1) (by omega) (by first | exact hz2 | (rw [← hz2]; simp [kFindI, c_3]; done) | (simp [← hz2, kFindI, c_3]; done) | (rw [← hz2]; simp only [kFindI, c_3, eq_self, if_true, if_false, Bool.false_eq_true, decide_true, decide_false, Bool.not_true, Bool.not_false, Bool.false_or, Bool.true_or, Bool.and_true, Bool.true_and, Bool.false_and, Bool.and_false, Bool.or_true, Bool.or_false]; done)) _ _ hW hS ls (lv_sub hl [0, 1, 2] rfl)
      · skip
        refine lv_iload_n hx hb dX4_helpFor_31 rfl (lv_at hl 0 rfl) ?_
        exact w_iret X hr hlk hS (by first | exact hz2 | (rw [← hz2]; simp [kFindI, c_3]; done) | (simp [← hz2, kFindI, c_3]; done) | (rw [← hz2]; simp only [kFindI, c_3, eq_self, if_true, if_false, Bool.false_eq_true, decide_true, decide_false, Bool.not_true, Bool.not_false, Bool.false_or, Bool.true_or, Bool.and_true, Bool.true_and, Bool.false_and, Bool.and_false, Bool.or_true, Bool.or_false]; done) | (simp [kFindI, c_3]; done)) hW dX4_helpFor_32
  exact loop2 40 0 (by omega) rfl _ _ hW hS ls (lv_sub hl [0, 1, 2] rfl)
set_option maxHeartbeats 4000000 in
set_option maxRecDepth 100000 in
theorem m_X4_asksInVain (l : Launch) (G : k_G) (ad : Nat → Nat → Nat) (nA nK : Nat) (I : k_I) (J : k_J) (hs : k_S nA nK I) : k_Met l yX4_asksInVain cX4_asksInVain 4 (some FieldType.int) { frames := 5, cells := 0, slots := 0, locals := 119 } G [.ref (ad 0 0)] (Wd G ad nA nK I J) (some (.int (kVain nA nK I J))) (Wd G ad nA nK I J) 0 0 := by
  refine k_body (by decide) (Nat.le_of_ble_eq_true rfl) ?_
  intro p e s m below meth c ls X hr hlk hnm hW hS hl
  have hx := X.1.1
  have hb := X.1.2.1
  have hG := X.1.2.2.2.2
  have hA24 := hs.2.2.1
  have hK30 := hs.2.2.2.1
  have hl : lv_has ls 4 [(0, .ref (ad 0 0))] := hl
  refine lv_iconst (v := 0) hx hb dX4_asksInVain_0 (by decide) ?_
  refine lv_istore_n (lv' := [(1, .int 0), (0, .ref (ad 0 0))]) hx hb dX4_asksInVain_1 rfl hl (by decide) rfl (fun ls hl => ?_)
  refine lv_iconst (v := 0) hx hb dX4_asksInVain_2 (by decide) ?_
  refine lv_istore_n (lv' := [(2, .int 0), (1, .int 0), (0, .ref (ad 0 0))]) hx hb dX4_asksInVain_3 rfl hl (by decide) rfl (fun ls hl => ?_)
  have loop4 : ∀ (d j : Nat) (v : Int32), j + d = nK → (kLoop (fun k v => if kSome nA I J (J 11 k 2) k then v else v ||| kBit (nI k)) d j v = kVain nA nK I J) → ∀ (H : Heap) (locs : List Loc), Wd G ad nA nK I J H → va_S (k_A G) s.heap H locs → ∀ ls : Array Slot, lv_has ls 4 [(2, .int (nI j)), (1, .int v), (0, .ref (ad 0 0))] → W p l e { frames := 5, cells := 0, slots := 0, locals := 119 } s m ([.ref (ad 0 0)] : List Value).toArray below meth c H locs 0 0 (MQ below (k_Q G (some (.int (kVain nA nK I J))) (Wd G ad nA nK I J)) ([.ref (ad 0 0)] : List Value).toArray s 0 0 (k_A G)) (F0 m 4 ls []) := by
    intro d
    induction d with
    | zero =>
      intro j v hi4 hz4  H locs hW hS ls hl
      refine lv_iload_n hx hb dX4_asksInVain_4 rfl (lv_at hl 0 rfl) ?_
      refine lv_aload_n hx hb dX4_asksInVain_5 rfl (lv_at hl 2 rfl) ?_
      refine w_get (v := .int (nI nK)) X hW 0 0 Nat.zero_lt_one rfl rfl inG4 5 (by decide) g54 (congrArg (fun z => some (Value.int z)) hs.2.1) dX4_asksInVain_6 ?_
      refine lv_icmp_ge (tgt := 47) hx hb dX4_asksInVain_9 (by decide) (fun _ => ?_) (fun c_1 => absurd (nI_le (a := nK) (b := j) (by omega) (by omega)) c_1)
      refine lv_iload_n hx hb dX4_asksInVain_47 rfl (lv_at hl 1 rfl) ?_
      exact w_iret X hr hlk hS (by first | exact hz4 | (rw [← hz4]; simp [kLoop]; done) | (simp [← hz4, kLoop]; done) | (rw [← hz4]; simp only [kLoop, eq_self, if_true, if_false, Bool.false_eq_true, decide_true, decide_false, Bool.not_true, Bool.not_false, Bool.false_or, Bool.true_or, Bool.and_true, Bool.true_and, Bool.false_and, Bool.and_false, Bool.or_true, Bool.or_false]; done) | (simp [kLoop]; done)) hW dX4_asksInVain_48
    | succ d ih =>
      intro j v hi4 hz4  H locs hW hS ls hl
      have hlt4 : j < nK := by omega
      have ih4 := ih
      refine lv_iload_n hx hb dX4_asksInVain_4 rfl (lv_at hl 0 rfl) ?_
      refine lv_aload_n hx hb dX4_asksInVain_5 rfl (lv_at hl 2 rfl) ?_
      refine w_get (v := .int (nI nK)) X hW 0 0 Nat.zero_lt_one rfl rfl inG4 5 (by decide) g54 (congrArg (fun z => some (Value.int z)) hs.2.1) dX4_asksInVain_6 ?_
      refine lv_icmp_ge (tgt := 47) hx hb dX4_asksInVain_9 (by decide) (fun c_2 => absurd c_2 (nI_ge (a := j) (b := nK) (by omega) (by omega))) (fun _ => ?_)
      refine lv_aload_n hx hb dX4_asksInVain_12 rfl (lv_at hl 2 rfl) ?_
      refine lv_iload_n hx hb dX4_asksInVain_13 rfl (lv_at hl 0 rfl) ?_
      refine w_cV1 X hS (m_X4_askAt l G ad nA nK I J (nI j) hs) rfl rfl g156 g1 g153 g155 p7 hd_X4_askAt ⟨Nat.le_of_ble_eq_true rfl, Nat.le_of_ble_eq_true rfl⟩ (k_rec X hW 0 0 Nat.zero_lt_one rfl rfl) hW hl.1 rfl (Nat.le_of_ble_eq_true rfl) dX4_asksInVain_14 (Nat.zero_le _) (Nat.zero_le _) (fun H locs hW hS => ?_)
      rw [kAns_lt (n := nK) (a := j) (by omega) (by omega)]
      refine lv_astore_n (lv' := [(3, .ref (ad 11 j)), (2, .int (nI j)), (1, .int v), (0, .ref (ad 0 0))]) hx hb dX4_asksInVain_17 rfl hl (by decide) rfl (fun ls hl => ?_)
      refine lv_aload_n hx hb dX4_asksInVain_18 rfl (lv_at hl 0 rfl) ?_
      refine lv_ifnull hx hb dX4_asksInVain_19 ?_
      refine lv_aload_n hx hb dX4_asksInVain_22 rfl (lv_at hl 3 rfl) ?_
      refine lv_aload_n hx hb dX4_asksInVain_23 rfl (lv_at hl 0 rfl) ?_
      refine w_get X hW 11 j (show j < nK by omega) rfl rfl inG1 2 (by decide) g452 rfl dX4_asksInVain_24 ?_
      refine lv_aload_n hx hb dX4_asksInVain_27 rfl (lv_at hl 0 rfl) ?_
      refine w_cV1 X hS (m_X4_findsSome l G ad nA nK I J (J 11 j 2) j (show j < nK by omega) hs) rfl rfl g390 g1 g387 g389 p18 hd_X4_findsSome ⟨Nat.le_of_ble_eq_true rfl, Nat.le_of_ble_eq_true rfl⟩ (k_rec X hW 0 0 Nat.zero_lt_one rfl rfl) hW hl.1 rfl (Nat.le_of_ble_eq_true rfl) dX4_asksInVain_28 (Nat.zero_le _) (Nat.zero_le _) (fun H locs hW hS => ?_)
      refine lb_if_ne (tgt := 41) hx hb dX4_asksInVain_31 (by decide) (fun c_3 => ?_) (fun c_3 => ?_)
      · skip
        refine lv_iinc (v := nI (j + 1)) (lv' := [(2, .int (nI (j + 1))), (3, .ref (ad 11 j)), (1, .int v), (0, .ref (ad 0 0))]) hx hb dX4_asksInVain_41 hl (k := 1) rfl (nI_1 j) (by decide) rfl (fun ls hl => ?_)
        refine lv_goto (tgt := 4) hx hb dX4_asksInVain_44 (by decide) ?_
        exact ih4 (j + 1) v (by omega) (by first | exact hz4 | (rw [← hz4]; simp [kLoop, c_3]; done) | (simp [← hz4, kLoop, c_3]; done) | (rw [← hz4]; simp only [kLoop, c_3, eq_self, if_true, if_false, Bool.false_eq_true, decide_true, decide_false, Bool.not_true, Bool.not_false, Bool.false_or, Bool.true_or, Bool.and_true, Bool.true_and, Bool.false_and, Bool.and_false, Bool.or_true, Bool.or_false]; done)) _ _ hW hS ls (lv_sub hl [0, 2, 3] rfl)
      · skip
        refine lv_iload_n hx hb dX4_asksInVain_34 rfl (lv_at hl 2 rfl) ?_
        refine lv_iload_n hx hb dX4_asksInVain_35 rfl (lv_at hl 1 rfl) ?_
        refine w_cS1 X hS (m_X4_bit l G (Wd G ad nA nK I J) (nI j) ) rfl rfl g110 g1 g131 g109 hd_X4_bit ⟨Nat.le_of_ble_eq_true rfl, Nat.le_of_ble_eq_true rfl⟩ hW hl.1 rfl (Nat.le_of_ble_eq_true rfl) dX4_asksInVain_36 (Nat.zero_le _) (Nat.zero_le _) (fun H locs hW hS => ?_)
        refine lv_ior hx hb dX4_asksInVain_39 ?_
        refine lv_istore_n (lv' := [(1, .int (v ||| (kBit (nI j)))), (3, .ref (ad 11 j)), (2, .int (nI j)), (0, .ref (ad 0 0))]) hx hb dX4_asksInVain_40 rfl hl (by decide) rfl (fun ls hl => ?_)
        refine lv_iinc (v := nI (j + 1)) (lv' := [(2, .int (nI (j + 1))), (1, .int (v ||| (kBit (nI j)))), (3, .ref (ad 11 j)), (0, .ref (ad 0 0))]) hx hb dX4_asksInVain_41 hl (k := 2) rfl (nI_1 j) (by decide) rfl (fun ls hl => ?_)
        refine lv_goto (tgt := 4) hx hb dX4_asksInVain_44 (by decide) ?_
        exact ih4 (j + 1) (v ||| (kBit (nI j))) (by omega) (by first | exact hz4 | (rw [← hz4]; simp [kLoop, c_3]; done) | (simp [← hz4, kLoop, c_3]; done) | (rw [← hz4]; simp only [kLoop, c_3, eq_self, if_true, if_false, Bool.false_eq_true, decide_true, decide_false, Bool.not_true, Bool.not_false, Bool.false_or, Bool.true_or, Bool.and_true, Bool.true_and, Bool.false_and, Bool.and_false, Bool.or_true, Bool.or_false]; done)) _ _ hW hS ls (lv_sub hl [0, 1, 3] rfl)
  exact loop4 nK 0 0 (by omega) rfl _ _ hW hS ls (lv_sub hl [0, 1, 2] rfl)
set_option maxHeartbeats 4000000 in
set_option maxRecDepth 100000 in
theorem m_X4_isNearOne (l : Launch) (G : k_G) (ad : Nat → Nat → Nat) (nA nK : Nat) (I : k_I) (J : k_J) (q : Nat) (h : Int32) (hq : q < nK) (hs : k_S nA nK I) : k_Met l yX4_isNearOne cX4_isNearOne 5 (some FieldType.boolean) { frames := 2, cells := 0, slots := 0, locals := 44 } G [.ref (ad 0 0), .ref (ad 11 q), .int h] (Wd G ad nA nK I J) (some (.int (k_b (kNear1 nK I J q h)))) (Wd G ad nA nK I J) 0 0 := by
  refine k_body (by decide) (Nat.le_of_ble_eq_true rfl) ?_
  intro p e s m below meth c ls X hr hlk hnm hW hS hl
  have hx := X.1.1
  have hb := X.1.2.1
  have hG := X.1.2.2.2.2
  have hA24 := hs.2.2.1
  have hK30 := hs.2.2.2.1
  have hl : lv_has ls 5 [(0, .ref (ad 0 0)), (1, .ref (ad 11 q)), (2, .int h)] := hl
  refine lv_iconst (v := 0) hx hb dX4_isNearOne_0 (by decide) ?_
  refine lv_istore_n (lv' := [(3, .int 0), (0, .ref (ad 0 0)), (1, .ref (ad 11 q)), (2, .int h)]) hx hb dX4_isNearOne_1 rfl hl (by decide) rfl (fun ls hl => ?_)
  have loop2 : ∀ (d j : Nat), j + d = nK → (kAny (fun k => !decide (h &&& kBit (nI k) = 0) && !decide (I 0 0 6 < kFar (J 11 q 2) (J 11 k 2))) d j = kNear1 nK I J q h) → ∀ (H : Heap) (locs : List Loc), Wd G ad nA nK I J H → va_S (k_A G) s.heap H locs → ∀ ls : Array Slot, lv_has ls 5 [(3, .int (nI j)), (0, .ref (ad 0 0)), (1, .ref (ad 11 q)), (2, .int h)] → W p l e { frames := 2, cells := 0, slots := 0, locals := 44 } s m ([.ref (ad 0 0), .ref (ad 11 q), .int h] : List Value).toArray below meth c H locs 0 0 (MQ below (k_Q G (some (.int (k_b (kNear1 nK I J q h)))) (Wd G ad nA nK I J)) ([.ref (ad 0 0), .ref (ad 11 q), .int h] : List Value).toArray s 0 0 (k_A G)) (F0 m 2 ls []) := by
    intro d
    induction d with
    | zero =>
      intro j hi2 hz2  H locs hW hS ls hl
      refine lv_aload_n hx hb dX4_isNearOne_2 rfl (lv_at hl 2 rfl) ?_
      refine lv_ifnull hx hb dX4_isNearOne_3 ?_
      refine lv_iload_n hx hb dX4_isNearOne_6 rfl (lv_at hl 0 rfl) ?_
      refine lv_aload_n hx hb dX4_isNearOne_7 rfl (lv_at hl 1 rfl) ?_
      refine w_get (v := .int (nI nK)) X hW 0 0 Nat.zero_lt_one rfl rfl inG4 5 (by decide) g54 (congrArg (fun z => some (Value.int z)) hs.2.1) dX4_isNearOne_8 ?_
      refine lv_icmp_ge (tgt := 62) hx hb dX4_isNearOne_11 (by decide) (fun _ => ?_) (fun c_1 => absurd (nI_le (a := nK) (b := j) (by omega) (by omega)) c_1)
      refine lv_iconst (v := 0) hx hb dX4_isNearOne_62 (by decide) ?_
      exact w_zret X hr hlk hS (by first | exact hz2 | (rw [← hz2]; simp [kAny, k_b]; done) | (simp [← hz2, kAny, k_b]; done) | (rw [← hz2]; simp only [kAny, k_b, eq_self, if_true, if_false, Bool.false_eq_true, decide_true, decide_false, Bool.not_true, Bool.not_false, Bool.false_or, Bool.true_or, Bool.and_true, Bool.true_and, Bool.false_and, Bool.and_false, Bool.or_true, Bool.or_false]; done) | (simp [kAny, k_b]; done)) (k_b_n _) hW dX4_isNearOne_63
    | succ d ih =>
      intro j hi2 hz2  H locs hW hS ls hl
      have hlt2 : j < nK := by omega
      have ih2 := ih
      refine lv_aload_n hx hb dX4_isNearOne_2 rfl (lv_at hl 2 rfl) ?_
      refine lv_ifnull hx hb dX4_isNearOne_3 ?_
      refine lv_iload_n hx hb dX4_isNearOne_6 rfl (lv_at hl 0 rfl) ?_
      refine lv_aload_n hx hb dX4_isNearOne_7 rfl (lv_at hl 1 rfl) ?_
      refine w_get (v := .int (nI nK)) X hW 0 0 Nat.zero_lt_one rfl rfl inG4 5 (by decide) g54 (congrArg (fun z => some (Value.int z)) hs.2.1) dX4_isNearOne_8 ?_
      refine lv_icmp_ge (tgt := 62) hx hb dX4_isNearOne_11 (by decide) (fun c_2 => absurd c_2 (nI_ge (a := j) (b := nK) (by omega) (by omega))) (fun _ => ?_)
      refine lv_aload_n hx hb dX4_isNearOne_14 rfl (lv_at hl 1 rfl) ?_
      refine lv_iload_n hx hb dX4_isNearOne_15 rfl (lv_at hl 0 rfl) ?_
      refine w_cV1 X hS (m_X4_askAt l G ad nA nK I J (nI j) hs) rfl rfl g156 g1 g153 g155 p7 hd_X4_askAt ⟨Nat.le_of_ble_eq_true rfl, Nat.le_of_ble_eq_true rfl⟩ (k_rec X hW 0 0 Nat.zero_lt_one rfl rfl) hW hl.1 rfl (Nat.le_of_ble_eq_true rfl) dX4_isNearOne_16 (Nat.zero_le _) (Nat.zero_le _) (fun H locs hW hS => ?_)
      rw [kAns_lt (n := nK) (a := j) (by omega) (by omega)]
      refine lv_astore (lv' := [(4, .ref (ad 11 j)), (3, .int (nI j)), (0, .ref (ad 0 0)), (1, .ref (ad 11 q)), (2, .int h)]) hx hb dX4_isNearOne_19 hl (by decide) rfl (fun ls hl => ?_)
      refine lv_aload hx hb dX4_isNearOne_21 (lv_at hl 0 rfl) ?_
      refine lv_ifnull hx hb dX4_isNearOne_23 ?_
      refine lv_iload_n hx hb dX4_isNearOne_26 rfl (lv_at hl 4 rfl) ?_
      refine lv_iload_n hx hb dX4_isNearOne_27 rfl (lv_at hl 1 rfl) ?_
      refine w_cS1 X hS (m_X4_bit l G (Wd G ad nA nK I J) (nI j) ) rfl rfl g110 g1 g131 g109 hd_X4_bit ⟨Nat.le_of_ble_eq_true rfl, Nat.le_of_ble_eq_true rfl⟩ hW hl.1 rfl (Nat.le_of_ble_eq_true rfl) dX4_isNearOne_28 (Nat.zero_le _) (Nat.zero_le _) (fun H locs hW hS => ?_)
      refine lv_iand hx hb dX4_isNearOne_31 ?_
      refine lv_if_eq (tgt := 56) hx hb dX4_isNearOne_32 (by decide) (fun c_3 => ?_) (fun c_3 => ?_)
      · skip
        refine lv_iinc (v := nI (j + 1)) (lv' := [(3, .int (nI (j + 1))), (4, .ref (ad 11 j)), (0, .ref (ad 0 0)), (1, .ref (ad 11 q)), (2, .int h)]) hx hb dX4_isNearOne_56 hl (k := 1) rfl (nI_1 j) (by decide) rfl (fun ls hl => ?_)
        refine lv_goto (tgt := 2) hx hb dX4_isNearOne_59 (by decide) ?_
        exact ih2 (j + 1) (by omega) (by first | exact hz2 | (rw [← hz2]; simp [kAny, k_b, c_3]; done) | (simp [← hz2, kAny, k_b, c_3]; done) | (rw [← hz2]; simp only [kAny, k_b, c_3, eq_self, if_true, if_false, Bool.false_eq_true, decide_true, decide_false, Bool.not_true, Bool.not_false, Bool.false_or, Bool.true_or, Bool.and_true, Bool.true_and, Bool.false_and, Bool.and_false, Bool.or_true, Bool.or_false]; done)) _ _ hW hS ls (lv_sub hl [0, 2, 3, 4] rfl)
      · skip
        refine lv_aload_n hx hb dX4_isNearOne_35 rfl (lv_at hl 3 rfl) ?_
        refine w_get X hW 11 q hq rfl rfl inG1 2 (by decide) g452 rfl dX4_isNearOne_36 ?_
        refine lv_aload hx hb dX4_isNearOne_39 (lv_at hl 0 rfl) ?_
        refine w_get X hW 11 j (show j < nK by omega) rfl rfl inG1 2 (by decide) g452 rfl dX4_isNearOne_41 ?_
        refine w_cS1 X hS (m_X4_far l G (Wd G ad nA nK I J) (J 11 q 2) (J 11 j 2) ) rfl rfl g376 g1 g374 g375 hd_X4_far ⟨Nat.le_of_ble_eq_true rfl, Nat.le_of_ble_eq_true rfl⟩ hW hl.1 rfl (Nat.le_of_ble_eq_true rfl) dX4_isNearOne_44 (Nat.zero_le _) (Nat.zero_le _) (fun H locs hW hS => ?_)
        refine lv_aload_n hx hb dX4_isNearOne_47 rfl (lv_at hl 2 rfl) ?_
        refine w_get X hW 0 0 Nat.zero_lt_one rfl rfl inG4 6 (by decide) g55 rfl dX4_isNearOne_48 ?_
        refine lv_icmp_gt (tgt := 56) hx hb dX4_isNearOne_51 (by decide) (fun c_4 => ?_) (fun c_4 => ?_)
        · skip
          refine lv_iinc (v := nI (j + 1)) (lv' := [(3, .int (nI (j + 1))), (4, .ref (ad 11 j)), (0, .ref (ad 0 0)), (1, .ref (ad 11 q)), (2, .int h)]) hx hb dX4_isNearOne_56 hl (k := 1) rfl (nI_1 j) (by decide) rfl (fun ls hl => ?_)
          refine lv_goto (tgt := 2) hx hb dX4_isNearOne_59 (by decide) ?_
          exact ih2 (j + 1) (by omega) (by first | exact hz2 | (rw [← hz2]; simp [kAny, k_b, c_3, c_4]; done) | (simp [← hz2, kAny, k_b, c_3, c_4]; done) | (rw [← hz2]; simp only [kAny, k_b, c_3, c_4, eq_self, if_true, if_false, Bool.false_eq_true, decide_true, decide_false, Bool.not_true, Bool.not_false, Bool.false_or, Bool.true_or, Bool.and_true, Bool.true_and, Bool.false_and, Bool.and_false, Bool.or_true, Bool.or_false]; done)) _ _ hW hS ls (lv_sub hl [0, 2, 3, 4] rfl)
        · skip
          refine lv_iconst (v := 1) hx hb dX4_isNearOne_54 (by decide) ?_
          exact w_zret X hr hlk hS (by first | exact hz2 | (rw [← hz2]; simp [kAny, k_b, c_3, c_4]; done) | (simp [← hz2, kAny, k_b, c_3, c_4]; done) | (rw [← hz2]; simp only [kAny, k_b, c_3, c_4, eq_self, if_true, if_false, Bool.false_eq_true, decide_true, decide_false, Bool.not_true, Bool.not_false, Bool.false_or, Bool.true_or, Bool.and_true, Bool.true_and, Bool.false_and, Bool.and_false, Bool.or_true, Bool.or_false]; done) | (simp [kAny, k_b, c_3, c_4]; done)) (k_b_n _) hW dX4_isNearOne_55
  exact loop2 nK 0 (by omega) rfl _ _ hW hS ls (lv_sub hl [0, 1, 2, 3] rfl)
set_option maxHeartbeats 4000000 in
set_option maxRecDepth 100000 in
theorem m_X4_heapFrom (l : Launch) (G : k_G) (ad : Nat → Nat → Nat) (nA nK : Nat) (I : k_I) (J : k_J) (f : Int32) (v : Int32) (hs : k_S nA nK I) : k_Met l yX4_heapFrom cX4_heapFrom 7 (some FieldType.int) { frames := 3, cells := 0, slots := 0, locals := 68 } G [.ref (ad 0 0), .int f, .int v] (Wd G ad nA nK I J) (some (.int (kHeapFrom nK I J f v))) (Wd G ad nA nK I J) 0 0 := by
  refine k_body (by decide) (Nat.le_of_ble_eq_true rfl) ?_
  intro p e s m below meth c ls X hr hlk hnm hW hS hl
  have hx := X.1.1
  have hb := X.1.2.1
  have hG := X.1.2.2.2.2
  have hA24 := hs.2.2.1
  have hK30 := hs.2.2.2.1
  have hl : lv_has ls 7 [(0, .ref (ad 0 0)), (1, .int f), (2, .int v)] := hl
  refine lv_iload_n hx hb dX4_heapFrom_0 rfl (lv_at hl 1 rfl) ?_
  refine w_cS1 X hS (m_X4_bit l G (Wd G ad nA nK I J) f ) rfl rfl g110 g1 g131 g109 hd_X4_bit ⟨Nat.le_of_ble_eq_true rfl, Nat.le_of_ble_eq_true rfl⟩ hW hl.1 rfl (Nat.le_of_ble_eq_true rfl) dX4_heapFrom_1 (Nat.zero_le _) (Nat.zero_le _) (fun H locs hW hS => ?_)
  refine lv_istore_n (lv' := [(3, .int (kBit f)), (0, .ref (ad 0 0)), (1, .int f), (2, .int v)]) hx hb dX4_heapFrom_4 rfl hl (by decide) rfl (fun ls hl => ?_)
  refine lv_iconst (v := 0) hx hb dX4_heapFrom_5 (by decide) ?_
  refine lv_istore (lv' := [(4, .int 0), (3, .int (kBit f)), (0, .ref (ad 0 0)), (1, .int f), (2, .int v)]) hx hb dX4_heapFrom_6 hl (by decide) rfl (fun ls hl => ?_)
  have loop8 : ∀ (d r : Nat) (h : Int32), r + d = 30 → (kLoop (fun _ h => kLoop (kHeapStep nK I J v) nK 0 h) d r h = kHeapFrom nK I J f v) → ∀ (H : Heap) (locs : List Loc), Wd G ad nA nK I J H → va_S (k_A G) s.heap H locs → ∀ ls : Array Slot, lv_has ls 7 [(4, .int (nI r)), (3, .int h), (0, .ref (ad 0 0)), (1, .int f), (2, .int v)] → W p l e { frames := 3, cells := 0, slots := 0, locals := 68 } s m ([.ref (ad 0 0), .int f, .int v] : List Value).toArray below meth c H locs 0 0 (MQ below (k_Q G (some (.int (kHeapFrom nK I J f v))) (Wd G ad nA nK I J)) ([.ref (ad 0 0), .int f, .int v] : List Value).toArray s 0 0 (k_A G)) (F0 m 8 ls []) := by
    intro d
    induction d with
    | zero =>
      intro r h hi8 hz8  H locs hW hS ls hl
      refine lv_iload hx hb dX4_heapFrom_8 (lv_at hl 0 rfl) ?_
      refine lv_bipush (v := 30) hx hb dX4_heapFrom_10 (by decide) ?_
      refine lv_icmp_ge (tgt := 87) hx hb dX4_heapFrom_12 (by decide) (fun _ => ?_) (fun c_1 => absurd (nI_le (a := 30) (b := r) (by omega) (by omega)) c_1)
      refine lv_iload_n hx hb dX4_heapFrom_87 rfl (lv_at hl 1 rfl) ?_
      exact w_iret X hr hlk hS (by first | exact hz8 | (rw [← hz8]; simp [kLoop, kHeapStep]; done) | (simp [← hz8, kLoop, kHeapStep]; done) | (rw [← hz8]; simp only [kLoop, kHeapStep, eq_self, if_true, if_false, Bool.false_eq_true, decide_true, decide_false, Bool.not_true, Bool.not_false, Bool.false_or, Bool.true_or, Bool.and_true, Bool.true_and, Bool.false_and, Bool.and_false, Bool.or_true, Bool.or_false]; done) | (simp [kLoop, kHeapStep]; done)) hW dX4_heapFrom_88
    | succ d ih =>
      intro r h hi8 hz8  H locs hW hS ls hl
      have hlt8 : r < 30 := by omega
      have ih8 := ih
      refine lv_iload hx hb dX4_heapFrom_8 (lv_at hl 0 rfl) ?_
      refine lv_bipush (v := 30) hx hb dX4_heapFrom_10 (by decide) ?_
      refine lv_icmp_ge (tgt := 87) hx hb dX4_heapFrom_12 (by decide) (fun c_2 => absurd c_2 (nI_ge (a := r) (b := 30) (by omega) (by omega))) (fun _ => ?_)
      refine lv_iload_n hx hb dX4_heapFrom_15 rfl (lv_at hl 1 rfl) ?_
      refine lv_istore (lv' := [(5, .int h), (4, .int (nI r)), (3, .int h), (0, .ref (ad 0 0)), (1, .int f), (2, .int v)]) hx hb dX4_heapFrom_16 hl (by decide) rfl (fun ls hl => ?_)
      refine lv_iconst (v := 0) hx hb dX4_heapFrom_18 (by decide) ?_
      refine lv_istore (lv' := [(6, .int 0), (5, .int h), (4, .int (nI r)), (3, .int h), (0, .ref (ad 0 0)), (1, .int f), (2, .int v)]) hx hb dX4_heapFrom_19 hl (by decide) rfl (fun ls hl => ?_)
      have loop21 : ∀ (d2 j : Nat) (h2 : Int32), j + d2 = nK → (kLoop (kHeapStep nK I J v) d2 j h2 = kLoop (kHeapStep nK I J v) nK 0 h) → ∀ (H : Heap) (locs : List Loc), Wd G ad nA nK I J H → va_S (k_A G) s.heap H locs → ∀ ls : Array Slot, lv_has ls 7 [(6, .int (nI j)), (3, .int h2), (5, .int h), (4, .int (nI r)), (0, .ref (ad 0 0)), (1, .int f), (2, .int v)] → W p l e { frames := 3, cells := 0, slots := 0, locals := 68 } s m ([.ref (ad 0 0), .int f, .int v] : List Value).toArray below meth c H locs 0 0 (MQ below (k_Q G (some (.int (kHeapFrom nK I J f v))) (Wd G ad nA nK I J)) ([.ref (ad 0 0), .int f, .int v] : List Value).toArray s 0 0 (k_A G)) (F0 m 21 ls []) := by
        intro d2
        induction d2 with
        | zero =>
          intro j h2 hi21 hz21  H locs hW hS ls hl
          have hz21 : h2 = kLoop (kHeapStep nK I J v) nK 0 h := hz21
          refine lv_iload hx hb dX4_heapFrom_21 (lv_at hl 0 rfl) ?_
          refine lv_aload_n hx hb dX4_heapFrom_23 rfl (lv_at hl 4 rfl) ?_
          refine w_get (v := .int (nI nK)) X hW 0 0 Nat.zero_lt_one rfl rfl inG4 5 (by decide) g54 (congrArg (fun z => some (Value.int z)) hs.2.1) dX4_heapFrom_24 ?_
          refine lv_icmp_ge (tgt := 72) hx hb dX4_heapFrom_27 (by decide) (fun _ => ?_) (fun c_3 => absurd (nI_le (a := nK) (b := j) (by omega) (by omega)) c_3)
          refine lv_iload_n hx hb dX4_heapFrom_72 rfl (lv_at hl 1 rfl) ?_
          refine lv_iload hx hb dX4_heapFrom_73 (lv_at hl 2 rfl) ?_
          refine lv_icmp_ne (tgt := 81) hx hb dX4_heapFrom_75 (by decide) (fun c_4 => ?_) (fun c_4 => ?_)
          · skip
            refine lv_iinc (v := nI (r + 1)) (lv' := [(4, .int (nI (r + 1))), (6, .int (nI j)), (3, .int h2), (5, .int h), (0, .ref (ad 0 0)), (1, .int f), (2, .int v)]) hx hb dX4_heapFrom_81 hl (k := 3) rfl (nI_1 r) (by decide) rfl (fun ls hl => ?_)
            refine lv_goto (tgt := 8) hx hb dX4_heapFrom_84 (by decide) ?_
            exact ih8 (r + 1) h2 (by omega) (by first | (rw [hz21]; exact hz8) | (rw [← hz8, hz21]; rfl)) _ _ hW hS ls (lv_sub hl [0, 2, 4, 5, 6] rfl)
          · skip
            refine lv_goto (tgt := 87) hx hb dX4_heapFrom_78 (by decide) ?_
            refine lv_iload_n hx hb dX4_heapFrom_87 rfl (lv_at hl 1 rfl) ?_
            exact w_iret X hr hlk hS (c_4.trans ((kLoop_stop (f := fun _ h => kLoop (kHeapStep nK I J v) nK 0 h) (fun _ => hz21.symm.trans c_4) _ _).symm.trans hz8)) hW dX4_heapFrom_88
        | succ d2 ih =>
          intro j h2 hi21 hz21  H locs hW hS ls hl
          have hlt21 : j < nK := by omega
          have ih21 := ih
          refine lv_iload hx hb dX4_heapFrom_21 (lv_at hl 0 rfl) ?_
          refine lv_aload_n hx hb dX4_heapFrom_23 rfl (lv_at hl 4 rfl) ?_
          refine w_get (v := .int (nI nK)) X hW 0 0 Nat.zero_lt_one rfl rfl inG4 5 (by decide) g54 (congrArg (fun z => some (Value.int z)) hs.2.1) dX4_heapFrom_24 ?_
          refine lv_icmp_ge (tgt := 72) hx hb dX4_heapFrom_27 (by decide) (fun c_5 => absurd c_5 (nI_ge (a := j) (b := nK) (by omega) (by omega))) (fun _ => ?_)
          refine lv_iload_n hx hb dX4_heapFrom_30 rfl (lv_at hl 6 rfl) ?_
          refine lv_iload_n hx hb dX4_heapFrom_31 rfl (lv_at hl 1 rfl) ?_
          refine lv_iconst (v := (-1)) hx hb dX4_heapFrom_32 (by decide) ?_
          refine lv_ixor hx hb dX4_heapFrom_33 ?_
          refine lv_iand hx hb dX4_heapFrom_34 ?_
          refine lv_iload hx hb dX4_heapFrom_35 (lv_at hl 0 rfl) ?_
          refine w_cS1 X hS (m_X4_bit l G (Wd G ad nA nK I J) (nI j) ) rfl rfl g110 g1 g131 g109 hd_X4_bit ⟨Nat.le_of_ble_eq_true rfl, Nat.le_of_ble_eq_true rfl⟩ hW hl.1 rfl (Nat.le_of_ble_eq_true rfl) dX4_heapFrom_37 (Nat.zero_le _) (Nat.zero_le _) (fun H locs hW hS => ?_)
          refine lv_iand hx hb dX4_heapFrom_40 ?_
          refine lv_if_eq (tgt := 66) hx hb dX4_heapFrom_41 (by decide) (fun c_6 => ?_) (fun c_6 => ?_)
          · skip
            refine lv_iinc (v := nI (j + 1)) (lv' := [(6, .int (nI (j + 1))), (3, .int h2), (5, .int h), (4, .int (nI r)), (0, .ref (ad 0 0)), (1, .int f), (2, .int v)]) hx hb dX4_heapFrom_66 hl (k := 0) rfl (nI_1 j) (by decide) rfl (fun ls hl => ?_)
            refine lv_goto (tgt := 21) hx hb dX4_heapFrom_69 (by decide) ?_
            exact ih21 (j + 1) h2 (by omega) (by first | exact hz21 | (rw [← hz21]; simp [kLoop, kHeapStep, c_6]; done) | (simp [← hz21, kLoop, kHeapStep, c_6]; done) | (rw [← hz21]; simp only [kLoop, kHeapStep, c_6, eq_self, if_true, if_false, Bool.false_eq_true, decide_true, decide_false, Bool.not_true, Bool.not_false, Bool.false_or, Bool.true_or, Bool.and_true, Bool.true_and, Bool.false_and, Bool.and_false, Bool.or_true, Bool.or_false]; done)) _ _ hW hS ls (lv_sub hl [0, 1, 2, 3, 4, 5, 6] rfl)
          · skip
            refine lv_aload_n hx hb dX4_heapFrom_44 rfl (lv_at hl 4 rfl) ?_
            refine lv_aload_n hx hb dX4_heapFrom_45 rfl (lv_at hl 4 rfl) ?_
            refine lv_iload hx hb dX4_heapFrom_46 (lv_at hl 0 rfl) ?_
            refine w_cV1 X hS (m_X4_askAt l G ad nA nK I J (nI j) hs) rfl rfl g156 g1 g153 g155 p7 hd_X4_askAt ⟨Nat.le_of_ble_eq_true rfl, Nat.le_of_ble_eq_true rfl⟩ (k_rec X hW 0 0 Nat.zero_lt_one rfl rfl) hW hl.1 rfl (Nat.le_of_ble_eq_true rfl) dX4_heapFrom_48 (Nat.zero_le _) (Nat.zero_le _) (fun H locs hW hS => ?_)
            rw [kAns_lt (n := nK) (a := j) (by omega) (by omega)]
            refine lv_iload_n hx hb dX4_heapFrom_51 rfl (lv_at hl 1 rfl) ?_
            refine w_cV1 X hS (m_X4_isNearOne l G ad nA nK I J j h2 (show j < nK by omega) hs) rfl rfl g424 g1 g421 g423 p22 hd_X4_isNearOne ⟨Nat.le_of_ble_eq_true rfl, Nat.le_of_ble_eq_true rfl⟩ (k_rec X hW 0 0 Nat.zero_lt_one rfl rfl) hW hl.1 rfl (Nat.le_of_ble_eq_true rfl) dX4_heapFrom_52 (Nat.zero_le _) (Nat.zero_le _) (fun H locs hW hS => ?_)
            refine lb_if_eq (tgt := 66) hx hb dX4_heapFrom_55 (by decide) (fun c_7 => ?_) (fun c_7 => ?_)
            · skip
              refine lv_iinc (v := nI (j + 1)) (lv' := [(6, .int (nI (j + 1))), (3, .int h2), (5, .int h), (4, .int (nI r)), (0, .ref (ad 0 0)), (1, .int f), (2, .int v)]) hx hb dX4_heapFrom_66 hl (k := 0) rfl (nI_1 j) (by decide) rfl (fun ls hl => ?_)
              refine lv_goto (tgt := 21) hx hb dX4_heapFrom_69 (by decide) ?_
              exact ih21 (j + 1) h2 (by omega) (by first | exact hz21 | (rw [← hz21]; simp [kLoop, kHeapStep, c_6, c_7]; done) | (simp [← hz21, kLoop, kHeapStep, c_6, c_7]; done) | (rw [← hz21]; simp only [kLoop, kHeapStep, c_6, c_7, eq_self, if_true, if_false, Bool.false_eq_true, decide_true, decide_false, Bool.not_true, Bool.not_false, Bool.false_or, Bool.true_or, Bool.and_true, Bool.true_and, Bool.false_and, Bool.and_false, Bool.or_true, Bool.or_false]; done)) _ _ hW hS ls (lv_sub hl [0, 1, 2, 3, 4, 5, 6] rfl)
            · skip
              refine lv_iload_n hx hb dX4_heapFrom_58 rfl (lv_at hl 1 rfl) ?_
              refine lv_iload hx hb dX4_heapFrom_59 (lv_at hl 0 rfl) ?_
              refine w_cS1 X hS (m_X4_bit l G (Wd G ad nA nK I J) (nI j) ) rfl rfl g110 g1 g131 g109 hd_X4_bit ⟨Nat.le_of_ble_eq_true rfl, Nat.le_of_ble_eq_true rfl⟩ hW hl.1 rfl (Nat.le_of_ble_eq_true rfl) dX4_heapFrom_61 (Nat.zero_le _) (Nat.zero_le _) (fun H locs hW hS => ?_)
              refine lv_ior hx hb dX4_heapFrom_64 ?_
              refine lv_istore_n (lv' := [(3, .int (h2 ||| (kBit (nI j)))), (6, .int (nI j)), (5, .int h), (4, .int (nI r)), (0, .ref (ad 0 0)), (1, .int f), (2, .int v)]) hx hb dX4_heapFrom_65 rfl hl (by decide) rfl (fun ls hl => ?_)
              refine lv_iinc (v := nI (j + 1)) (lv' := [(6, .int (nI (j + 1))), (3, .int (h2 ||| (kBit (nI j)))), (5, .int h), (4, .int (nI r)), (0, .ref (ad 0 0)), (1, .int f), (2, .int v)]) hx hb dX4_heapFrom_66 hl (k := 1) rfl (nI_1 j) (by decide) rfl (fun ls hl => ?_)
              refine lv_goto (tgt := 21) hx hb dX4_heapFrom_69 (by decide) ?_
              exact ih21 (j + 1) (h2 ||| (kBit (nI j))) (by omega) (by first | exact hz21 | (rw [← hz21]; simp [kLoop, kHeapStep, c_6, c_7]; done) | (simp [← hz21, kLoop, kHeapStep, c_6, c_7]; done) | (rw [← hz21]; simp only [kLoop, kHeapStep, c_6, c_7, eq_self, if_true, if_false, Bool.false_eq_true, decide_true, decide_false, Bool.not_true, Bool.not_false, Bool.false_or, Bool.true_or, Bool.and_true, Bool.true_and, Bool.false_and, Bool.and_false, Bool.or_true, Bool.or_false]; done)) _ _ hW hS ls (lv_sub hl [0, 1, 2, 3, 4, 5, 6] rfl)
      exact loop21 nK 0 h (by omega) rfl _ _ hW hS ls (lv_sub hl [0, 3, 1, 2, 4, 5, 6] rfl)
  exact loop8 30 0 (kBit f) (by omega) rfl _ _ hW hS ls (lv_sub hl [0, 1, 2, 3, 4] rfl)
set_option maxHeartbeats 4000000 in
set_option maxRecDepth 100000 in
theorem m_X4_heapCount (l : Launch) (G : k_G) (ad : Nat → Nat → Nat) (nA nK : Nat) (I : k_I) (J : k_J) (v : Int32) (hs : k_S nA nK I) : k_Met l yX4_heapCount cX4_heapCount 5 (some FieldType.int) { frames := 4, cells := 0, slots := 0, locals := 94 } G [.ref (ad 0 0), .int v] (Wd G ad nA nK I J) (some (.int ((kHeapN nK I J v).2))) (Wd G ad nA nK I J) 0 0 := by
  refine k_body (by decide) (Nat.le_of_ble_eq_true rfl) ?_
  intro p e s m below meth c ls X hr hlk hnm hW hS hl
  have hx := X.1.1
  have hb := X.1.2.1
  have hG := X.1.2.2.2.2
  have hA24 := hs.2.2.1
  have hK30 := hs.2.2.2.1
  have hl : lv_has ls 5 [(0, .ref (ad 0 0)), (1, .int v)] := hl
  refine lv_iload_n hx hb dX4_heapCount_0 rfl (lv_at hl 1 rfl) ?_
  refine lv_istore_n (lv' := [(2, .int v), (0, .ref (ad 0 0)), (1, .int v)]) hx hb dX4_heapCount_1 rfl hl (by decide) rfl (fun ls hl => ?_)
  refine lv_iconst (v := 0) hx hb dX4_heapCount_2 (by decide) ?_
  refine lv_istore_n (lv' := [(3, .int 0), (2, .int v), (0, .ref (ad 0 0)), (1, .int v)]) hx hb dX4_heapCount_3 rfl hl (by decide) rfl (fun ls hl => ?_)
  refine lv_iconst (v := 0) hx hb dX4_heapCount_4 (by decide) ?_
  refine lv_istore (lv' := [(4, .int 0), (3, .int 0), (2, .int v), (0, .ref (ad 0 0)), (1, .int v)]) hx hb dX4_heapCount_5 hl (by decide) rfl (fun ls hl => ?_)
  have loop7 : ∀ (d j : Nat) (w : Int32) (n : Int32), j + d = nK → ((kLoop (fun k (s : Int32 × Int32) => if s.1 &&& kBit (nI k) = 0 then s else (s.1 &&& (kHeapFrom nK I J (nI k) v ^^^ -1), s.2 + 1)) d j (w, n)).2 = (kHeapN nK I J v).2) → ∀ (H : Heap) (locs : List Loc), Wd G ad nA nK I J H → va_S (k_A G) s.heap H locs → ∀ ls : Array Slot, lv_has ls 5 [(4, .int (nI j)), (2, .int w), (3, .int n), (0, .ref (ad 0 0)), (1, .int v)] → W p l e { frames := 4, cells := 0, slots := 0, locals := 94 } s m ([.ref (ad 0 0), .int v] : List Value).toArray below meth c H locs 0 0 (MQ below (k_Q G (some (.int ((kHeapN nK I J v).2))) (Wd G ad nA nK I J)) ([.ref (ad 0 0), .int v] : List Value).toArray s 0 0 (k_A G)) (F0 m 7 ls []) := by
    intro d
    induction d with
    | zero =>
      intro j w n hi7 hz7  H locs hW hS ls hl
      refine lv_iload hx hb dX4_heapCount_7 (lv_at hl 0 rfl) ?_
      refine lv_aload_n hx hb dX4_heapCount_9 rfl (lv_at hl 3 rfl) ?_
      refine w_get (v := .int (nI nK)) X hW 0 0 Nat.zero_lt_one rfl rfl inG4 5 (by decide) g54 (congrArg (fun z => some (Value.int z)) hs.2.1) dX4_heapCount_10 ?_
      refine lv_icmp_ge (tgt := 47) hx hb dX4_heapCount_13 (by decide) (fun _ => ?_) (fun c_1 => absurd (nI_le (a := nK) (b := j) (by omega) (by omega)) c_1)
      refine lv_iload_n hx hb dX4_heapCount_47 rfl (lv_at hl 2 rfl) ?_
      exact w_iret X hr hlk hS (by first | exact hz7 | (rw [← hz7]; simp [kLoop]; done) | (simp [← hz7, kLoop]; done) | (rw [← hz7]; simp only [kLoop, eq_self, if_true, if_false, Bool.false_eq_true, decide_true, decide_false, Bool.not_true, Bool.not_false, Bool.false_or, Bool.true_or, Bool.and_true, Bool.true_and, Bool.false_and, Bool.and_false, Bool.or_true, Bool.or_false]; done) | (simp [kLoop]; done)) hW dX4_heapCount_48
    | succ d ih =>
      intro j w n hi7 hz7  H locs hW hS ls hl
      have hlt7 : j < nK := by omega
      have ih7 := ih
      refine lv_iload hx hb dX4_heapCount_7 (lv_at hl 0 rfl) ?_
      refine lv_aload_n hx hb dX4_heapCount_9 rfl (lv_at hl 3 rfl) ?_
      refine w_get (v := .int (nI nK)) X hW 0 0 Nat.zero_lt_one rfl rfl inG4 5 (by decide) g54 (congrArg (fun z => some (Value.int z)) hs.2.1) dX4_heapCount_10 ?_
      refine lv_icmp_ge (tgt := 47) hx hb dX4_heapCount_13 (by decide) (fun c_2 => absurd c_2 (nI_ge (a := j) (b := nK) (by omega) (by omega))) (fun _ => ?_)
      refine lv_iload_n hx hb dX4_heapCount_16 rfl (lv_at hl 1 rfl) ?_
      refine lv_iload hx hb dX4_heapCount_17 (lv_at hl 0 rfl) ?_
      refine w_cS1 X hS (m_X4_bit l G (Wd G ad nA nK I J) (nI j) ) rfl rfl g110 g1 g131 g109 hd_X4_bit ⟨Nat.le_of_ble_eq_true rfl, Nat.le_of_ble_eq_true rfl⟩ hW hl.1 rfl (Nat.le_of_ble_eq_true rfl) dX4_heapCount_19 (Nat.zero_le _) (Nat.zero_le _) (fun H locs hW hS => ?_)
      refine lv_iand hx hb dX4_heapCount_22 ?_
      refine lv_if_eq (tgt := 41) hx hb dX4_heapCount_23 (by decide) (fun c_3 => ?_) (fun c_3 => ?_)
      · skip
        refine lv_iinc (v := nI (j + 1)) (lv' := [(4, .int (nI (j + 1))), (2, .int w), (3, .int n), (0, .ref (ad 0 0)), (1, .int v)]) hx hb dX4_heapCount_41 hl (k := 0) rfl (nI_1 j) (by decide) rfl (fun ls hl => ?_)
        refine lv_goto (tgt := 7) hx hb dX4_heapCount_44 (by decide) ?_
        exact ih7 (j + 1) w n (by omega) (by first | exact hz7 | (rw [← hz7]; simp [kLoop, c_3]; done) | (simp [← hz7, kLoop, c_3]; done) | (rw [← hz7]; simp only [kLoop, c_3, eq_self, if_true, if_false, Bool.false_eq_true, decide_true, decide_false, Bool.not_true, Bool.not_false, Bool.false_or, Bool.true_or, Bool.and_true, Bool.true_and, Bool.false_and, Bool.and_false, Bool.or_true, Bool.or_false]; done)) _ _ hW hS ls (lv_sub hl [0, 1, 2, 3, 4] rfl)
      · skip
        refine lv_iload_n hx hb dX4_heapCount_26 rfl (lv_at hl 1 rfl) ?_
        refine lv_aload_n hx hb dX4_heapCount_27 rfl (lv_at hl 3 rfl) ?_
        refine lv_iload hx hb dX4_heapCount_28 (lv_at hl 0 rfl) ?_
        refine lv_iload_n hx hb dX4_heapCount_30 rfl (lv_at hl 4 rfl) ?_
        refine w_cV1 X hS (m_X4_heapFrom l G ad nA nK I J (nI j) v hs) rfl rfl g420 g1 g417 g419 p21 hd_X4_heapFrom ⟨Nat.le_of_ble_eq_true rfl, Nat.le_of_ble_eq_true rfl⟩ (k_rec X hW 0 0 Nat.zero_lt_one rfl rfl) hW hl.1 rfl (Nat.le_of_ble_eq_true rfl) dX4_heapCount_31 (Nat.zero_le _) (Nat.zero_le _) (fun H locs hW hS => ?_)
        refine lv_iconst (v := (-1)) hx hb dX4_heapCount_34 (by decide) ?_
        refine lv_ixor hx hb dX4_heapCount_35 ?_
        refine lv_iand hx hb dX4_heapCount_36 ?_
        refine lv_istore_n (lv' := [(2, .int (w &&& ((kHeapFrom nK I J (nI j) v) ^^^ (-1)))), (4, .int (nI j)), (3, .int n), (0, .ref (ad 0 0)), (1, .int v)]) hx hb dX4_heapCount_37 rfl hl (by decide) rfl (fun ls hl => ?_)
        refine lv_iinc (v := n + 1) (lv' := [(3, .int (n + 1)), (2, .int (w &&& ((kHeapFrom nK I J (nI j) v) ^^^ (-1)))), (4, .int (nI j)), (0, .ref (ad 0 0)), (1, .int v)]) hx hb dX4_heapCount_38 hl (k := 2) rfl rfl (by decide) rfl (fun ls hl => ?_)
        refine lv_iinc (v := nI (j + 1)) (lv' := [(4, .int (nI (j + 1))), (3, .int (n + 1)), (2, .int (w &&& ((kHeapFrom nK I J (nI j) v) ^^^ (-1)))), (0, .ref (ad 0 0)), (1, .int v)]) hx hb dX4_heapCount_41 hl (k := 2) rfl (nI_1 j) (by decide) rfl (fun ls hl => ?_)
        refine lv_goto (tgt := 7) hx hb dX4_heapCount_44 (by decide) ?_
        exact ih7 (j + 1) (w &&& ((kHeapFrom nK I J (nI j) v) ^^^ (-1))) (n + 1) (by omega) (by first | exact hz7 | (rw [← hz7]; simp [kLoop, c_3]; done) | (simp [← hz7, kLoop, c_3]; done) | (rw [← hz7]; simp only [kLoop, c_3, eq_self, if_true, if_false, Bool.false_eq_true, decide_true, decide_false, Bool.not_true, Bool.not_false, Bool.false_or, Bool.true_or, Bool.and_true, Bool.true_and, Bool.false_and, Bool.and_false, Bool.or_true, Bool.or_false]; done)) _ _ hW hS ls (lv_sub hl [0, 2, 1, 3, 4] rfl)
  exact loop7 nK 0 v 0 (by omega) rfl _ _ hW hS ls (lv_sub hl [0, 2, 1, 3, 4] rfl)
set_option maxHeartbeats 4000000 in
set_option maxRecDepth 100000 in
theorem m_X4_heapOf (l : Launch) (G : k_G) (ad : Nat → Nat → Nat) (nA nK : Nat) (I : k_I) (J : k_J) (q : Int32) (v : Int32) (hs : k_S nA nK I) : k_Met l yX4_heapOf cX4_heapOf 7 (some FieldType.int) { frames := 4, cells := 0, slots := 0, locals := 94 } G [.ref (ad 0 0), .int q, .int v] (Wd G ad nA nK I J) (some (.int (kHeapOf nK I J q v))) (Wd G ad nA nK I J) 0 0 := by
  refine k_body (by decide) (Nat.le_of_ble_eq_true rfl) ?_
  intro p e s m below meth c ls X hr hlk hnm hW hS hl
  have hx := X.1.1
  have hb := X.1.2.1
  have hG := X.1.2.2.2.2
  have hA24 := hs.2.2.1
  have hK30 := hs.2.2.2.1
  have hl : lv_has ls 7 [(0, .ref (ad 0 0)), (1, .int q), (2, .int v)] := hl
  refine lv_iload_n hx hb dX4_heapOf_0 rfl (lv_at hl 2 rfl) ?_
  refine lv_istore_n (lv' := [(3, .int v), (0, .ref (ad 0 0)), (1, .int q), (2, .int v)]) hx hb dX4_heapOf_1 rfl hl (by decide) rfl (fun ls hl => ?_)
  refine lv_iconst (v := 0) hx hb dX4_heapOf_2 (by decide) ?_
  refine lv_istore (lv' := [(4, .int 0), (3, .int v), (0, .ref (ad 0 0)), (1, .int q), (2, .int v)]) hx hb dX4_heapOf_3 hl (by decide) rfl (fun ls hl => ?_)
  refine lv_iconst (v := 0) hx hb dX4_heapOf_5 (by decide) ?_
  refine lv_istore (lv' := [(5, .int 0), (4, .int 0), (3, .int v), (0, .ref (ad 0 0)), (1, .int q), (2, .int v)]) hx hb dX4_heapOf_6 hl (by decide) rfl (fun ls hl => ?_)
  have loop8 : ∀ (d j : Nat) (w : Int32) (n : Int32), j + d = nK → (kHeapOfF nK I J q v d j w n = kHeapOf nK I J q v) → ∀ (H : Heap) (locs : List Loc), Wd G ad nA nK I J H → va_S (k_A G) s.heap H locs → ∀ ls : Array Slot, lv_has ls 7 [(5, .int (nI j)), (3, .int w), (4, .int n), (0, .ref (ad 0 0)), (1, .int q), (2, .int v)] → W p l e { frames := 4, cells := 0, slots := 0, locals := 94 } s m ([.ref (ad 0 0), .int q, .int v] : List Value).toArray below meth c H locs 0 0 (MQ below (k_Q G (some (.int (kHeapOf nK I J q v))) (Wd G ad nA nK I J)) ([.ref (ad 0 0), .int q, .int v] : List Value).toArray s 0 0 (k_A G)) (F0 m 8 ls []) := by
    intro d
    induction d with
    | zero =>
      intro j w n hi8 hz8  H locs hW hS ls hl
      refine lv_iload hx hb dX4_heapOf_8 (lv_at hl 0 rfl) ?_
      refine lv_aload_n hx hb dX4_heapOf_10 rfl (lv_at hl 3 rfl) ?_
      refine w_get (v := .int (nI nK)) X hW 0 0 Nat.zero_lt_one rfl rfl inG4 5 (by decide) g54 (congrArg (fun z => some (Value.int z)) hs.2.1) dX4_heapOf_11 ?_
      refine lv_icmp_ge (tgt := 65) hx hb dX4_heapOf_14 (by decide) (fun _ => ?_) (fun c_1 => absurd (nI_le (a := nK) (b := j) (by omega) (by omega)) c_1)
      refine lv_iconst (v := (-1)) hx hb dX4_heapOf_65 (by decide) ?_
      exact w_iret X hr hlk hS (by first | exact hz8 | (rw [← hz8]; simp [kHeapOfF]; done) | (simp [← hz8, kHeapOfF]; done) | (rw [← hz8]; simp only [kHeapOfF, eq_self, if_true, if_false, Bool.false_eq_true, decide_true, decide_false, Bool.not_true, Bool.not_false, Bool.false_or, Bool.true_or, Bool.and_true, Bool.true_and, Bool.false_and, Bool.and_false, Bool.or_true, Bool.or_false]; done) | (simp [kHeapOfF]; done)) hW dX4_heapOf_66
    | succ d ih =>
      intro j w n hi8 hz8  H locs hW hS ls hl
      have hlt8 : j < nK := by omega
      have ih8 := ih
      refine lv_iload hx hb dX4_heapOf_8 (lv_at hl 0 rfl) ?_
      refine lv_aload_n hx hb dX4_heapOf_10 rfl (lv_at hl 3 rfl) ?_
      refine w_get (v := .int (nI nK)) X hW 0 0 Nat.zero_lt_one rfl rfl inG4 5 (by decide) g54 (congrArg (fun z => some (Value.int z)) hs.2.1) dX4_heapOf_11 ?_
      refine lv_icmp_ge (tgt := 65) hx hb dX4_heapOf_14 (by decide) (fun c_2 => absurd c_2 (nI_ge (a := j) (b := nK) (by omega) (by omega))) (fun _ => ?_)
      refine lv_iload_n hx hb dX4_heapOf_17 rfl (lv_at hl 1 rfl) ?_
      refine lv_iload hx hb dX4_heapOf_18 (lv_at hl 0 rfl) ?_
      refine w_cS1 X hS (m_X4_bit l G (Wd G ad nA nK I J) (nI j) ) rfl rfl g110 g1 g131 g109 hd_X4_bit ⟨Nat.le_of_ble_eq_true rfl, Nat.le_of_ble_eq_true rfl⟩ hW hl.1 rfl (Nat.le_of_ble_eq_true rfl) dX4_heapOf_20 (Nat.zero_le _) (Nat.zero_le _) (fun H locs hW hS => ?_)
      refine lv_iand hx hb dX4_heapOf_23 ?_
      refine lv_if_eq (tgt := 59) hx hb dX4_heapOf_24 (by decide) (fun c_3 => ?_) (fun c_3 => ?_)
      · skip
        refine lv_iinc (v := nI (j + 1)) (lv' := [(5, .int (nI (j + 1))), (3, .int w), (4, .int n), (0, .ref (ad 0 0)), (1, .int q), (2, .int v)]) hx hb dX4_heapOf_59 hl (k := 0) rfl (nI_1 j) (by decide) rfl (fun ls hl => ?_)
        refine lv_goto (tgt := 8) hx hb dX4_heapOf_62 (by decide) ?_
        exact ih8 (j + 1) w n (by omega) (by first | exact hz8 | (rw [← hz8]; simp [kHeapOfF, c_3]; done) | (simp [← hz8, kHeapOfF, c_3]; done) | (rw [← hz8]; simp only [kHeapOfF, c_3, eq_self, if_true, if_false, Bool.false_eq_true, decide_true, decide_false, Bool.not_true, Bool.not_false, Bool.false_or, Bool.true_or, Bool.and_true, Bool.true_and, Bool.false_and, Bool.and_false, Bool.or_true, Bool.or_false]; done)) _ _ hW hS ls (lv_sub hl [0, 1, 2, 3, 4, 5] rfl)
      · skip
        refine lv_aload_n hx hb dX4_heapOf_27 rfl (lv_at hl 3 rfl) ?_
        refine lv_iload hx hb dX4_heapOf_28 (lv_at hl 0 rfl) ?_
        refine lv_iload_n hx hb dX4_heapOf_30 rfl (lv_at hl 5 rfl) ?_
        refine w_cV1 X hS (m_X4_heapFrom l G ad nA nK I J (nI j) v hs) rfl rfl g420 g1 g417 g419 p21 hd_X4_heapFrom ⟨Nat.le_of_ble_eq_true rfl, Nat.le_of_ble_eq_true rfl⟩ (k_rec X hW 0 0 Nat.zero_lt_one rfl rfl) hW hl.1 rfl (Nat.le_of_ble_eq_true rfl) dX4_heapOf_31 (Nat.zero_le _) (Nat.zero_le _) (fun H locs hW hS => ?_)
        refine lv_istore (lv' := [(6, .int (kHeapFrom nK I J (nI j) v)), (5, .int (nI j)), (3, .int w), (4, .int n), (0, .ref (ad 0 0)), (1, .int q), (2, .int v)]) hx hb dX4_heapOf_34 hl (by decide) rfl (fun ls hl => ?_)
        refine lv_iload hx hb dX4_heapOf_36 (lv_at hl 0 rfl) ?_
        refine lv_iload_n hx hb dX4_heapOf_38 rfl (lv_at hl 5 rfl) ?_
        refine w_cS1 X hS (m_X4_bit l G (Wd G ad nA nK I J) q ) rfl rfl g110 g1 g131 g109 hd_X4_bit ⟨Nat.le_of_ble_eq_true rfl, Nat.le_of_ble_eq_true rfl⟩ hW hl.1 rfl (Nat.le_of_ble_eq_true rfl) dX4_heapOf_39 (Nat.zero_le _) (Nat.zero_le _) (fun H locs hW hS => ?_)
        refine lv_iand hx hb dX4_heapOf_42 ?_
        refine lv_if_eq (tgt := 49) hx hb dX4_heapOf_43 (by decide) (fun c_4 => ?_) (fun c_4 => ?_)
        · skip
          refine lv_iload_n hx hb dX4_heapOf_49 rfl (lv_at hl 2 rfl) ?_
          refine lv_iload hx hb dX4_heapOf_50 (lv_at hl 0 rfl) ?_
          refine lv_iconst (v := (-1)) hx hb dX4_heapOf_52 (by decide) ?_
          refine lv_ixor hx hb dX4_heapOf_53 ?_
          refine lv_iand hx hb dX4_heapOf_54 ?_
          refine lv_istore_n (lv' := [(3, .int (w &&& ((kHeapFrom nK I J (nI j) v) ^^^ (-1)))), (6, .int (kHeapFrom nK I J (nI j) v)), (5, .int (nI j)), (4, .int n), (0, .ref (ad 0 0)), (1, .int q), (2, .int v)]) hx hb dX4_heapOf_55 rfl hl (by decide) rfl (fun ls hl => ?_)
          refine lv_iinc (v := n + 1) (lv' := [(4, .int (n + 1)), (3, .int (w &&& ((kHeapFrom nK I J (nI j) v) ^^^ (-1)))), (6, .int (kHeapFrom nK I J (nI j) v)), (5, .int (nI j)), (0, .ref (ad 0 0)), (1, .int q), (2, .int v)]) hx hb dX4_heapOf_56 hl (k := 3) rfl rfl (by decide) rfl (fun ls hl => ?_)
          refine lv_iinc (v := nI (j + 1)) (lv' := [(5, .int (nI (j + 1))), (4, .int (n + 1)), (3, .int (w &&& ((kHeapFrom nK I J (nI j) v) ^^^ (-1)))), (6, .int (kHeapFrom nK I J (nI j) v)), (0, .ref (ad 0 0)), (1, .int q), (2, .int v)]) hx hb dX4_heapOf_59 hl (k := 3) rfl (nI_1 j) (by decide) rfl (fun ls hl => ?_)
          refine lv_goto (tgt := 8) hx hb dX4_heapOf_62 (by decide) ?_
          exact ih8 (j + 1) (w &&& ((kHeapFrom nK I J (nI j) v) ^^^ (-1))) (n + 1) (by omega) (by first | exact hz8 | (rw [← hz8]; simp [kHeapOfF, c_3, c_4]; done) | (simp [← hz8, kHeapOfF, c_3, c_4]; done) | (rw [← hz8]; simp only [kHeapOfF, c_3, c_4, eq_self, if_true, if_false, Bool.false_eq_true, decide_true, decide_false, Bool.not_true, Bool.not_false, Bool.false_or, Bool.true_or, Bool.and_true, Bool.true_and, Bool.false_and, Bool.and_false, Bool.or_true, Bool.or_false]; done)) _ _ hW hS ls (lv_sub hl [0, 2, 1, 4, 5, 6] rfl)
        · skip
          refine lv_iload hx hb dX4_heapOf_46 (lv_at hl 3 rfl) ?_
          exact w_iret X hr hlk hS (by first | exact hz8 | (rw [← hz8]; simp [kHeapOfF, c_3, c_4]; done) | (simp [← hz8, kHeapOfF, c_3, c_4]; done) | (rw [← hz8]; simp only [kHeapOfF, c_3, c_4, eq_self, if_true, if_false, Bool.false_eq_true, decide_true, decide_false, Bool.not_true, Bool.not_false, Bool.false_or, Bool.true_or, Bool.and_true, Bool.true_and, Bool.false_and, Bool.and_false, Bool.or_true, Bool.or_false]; done) | (simp [kHeapOfF, c_3, c_4]; done)) hW dX4_heapOf_48
  exact loop8 nK 0 v 0 (by omega) rfl _ _ hW hS ls (lv_sub hl [0, 2, 1, 3, 4, 5] rfl)
