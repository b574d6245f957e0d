set_option maxHeartbeats 4000000 in
set_option maxRecDepth 100000 in
theorem m_X4_kindCount (l : Launch) (G : k_G) (ad : Nat → Nat → Nat) (nA nK : Nat) (I : k_I) (J : k_J) (k : Int32) (hs : k_S nA nK I) : k_Met l yX4_kindCount cX4_kindCount 5 (some FieldType.int) { frames := 2, cells := 0, slots := 0, locals := 40 } G [.ref (ad 0 0), .int k] (Wd G ad nA nK I J) (some (.int (kKindN nA I k))) (Wd G ad nA nK I J) 0 0 := by
  refine k_body (by decide) (Nat.le_of_ble_eq_true rfl) ?_
  intro p e s m below meth c ls X hr hlk hnm hW hS hl
  have hx := X.1.1
  have hb := X.1.2.1
  have hG := X.1.2.2.2.2
  have hA24 := hs.2.2.1
  have hK30 := hs.2.2.2.1
  have hl : lv_has ls 5 [(0, .ref (ad 0 0)), (1, .int k)] := hl
  refine lv_iconst (v := 0) hx hb dX4_kindCount_0 (by decide) ?_
  refine lv_istore_n (lv' := [(2, .int 0), (0, .ref (ad 0 0)), (1, .int k)]) hx hb dX4_kindCount_1 rfl hl (by decide) rfl (fun ls hl => ?_)
  refine lv_iconst (v := 0) hx hb dX4_kindCount_2 (by decide) ?_
  refine lv_istore_n (lv' := [(3, .int 0), (2, .int 0), (0, .ref (ad 0 0)), (1, .int k)]) hx hb dX4_kindCount_3 rfl hl (by decide) rfl (fun ls hl => ?_)
  have loop4 : ∀ (d j : Nat) (n : Int32), j + d = nA → (kLoop (fun a n => if kKind I a = k then n + 1 else n) d j n = kKindN nA I k) → ∀ (H : Heap) (locs : List Loc), Wd G ad nA nK I J H → va_S (k_A G) s.heap H locs → ∀ ls : Array Slot, lv_has ls 5 [(3, .int (nI j)), (2, .int n), (0, .ref (ad 0 0)), (1, .int k)] → W p l e { frames := 2, cells := 0, slots := 0, locals := 40 } s m ([.ref (ad 0 0), .int k] : List Value).toArray below meth c H locs 0 0 (MQ below (k_Q G (some (.int (kKindN nA I k))) (Wd G ad nA nK I J)) ([.ref (ad 0 0), .int k] : List Value).toArray s 0 0 (k_A G)) (F0 m 4 ls []) := by
    intro d
    induction d with
    | zero =>
      intro j n hi4 hz4  H locs hW hS ls hl
      refine lv_iload_n hx hb dX4_kindCount_4 rfl (lv_at hl 0 rfl) ?_
      refine lv_aload_n hx hb dX4_kindCount_5 rfl (lv_at hl 2 rfl) ?_
      refine w_get (v := .int (nI nA)) X hW 0 0 Nat.zero_lt_one rfl rfl inG4 4 (by decide) g53 (congrArg (fun z => some (Value.int z)) hs.1) dX4_kindCount_6 ?_
      refine lv_icmp_ge (tgt := 42) hx hb dX4_kindCount_9 (by decide) (fun _ => ?_) (fun c_1 => absurd (nI_le (a := nA) (b := j) (by omega) (by omega)) c_1)
      refine lv_iload_n hx hb dX4_kindCount_42 rfl (lv_at hl 1 rfl) ?_
      exact w_iret X hr hlk hS (by first | exact hz4 | (rw [← hz4]; simp [kLoop]; done) | (simp [← hz4, kLoop]; done) | (rw [← hz4]; simp only [kLoop, eq_self, if_true, if_false, Bool.false_eq_true, decide_true, decide_false, Bool.not_true, Bool.not_false, Bool.false_or, Bool.true_or, Bool.and_true, Bool.true_and, Bool.false_and, Bool.and_false, Bool.or_true, Bool.or_false]; done) | (simp [kLoop]; done)) hW dX4_kindCount_43
    | succ d ih =>
      intro j n hi4 hz4  H locs hW hS ls hl
      have hlt4 : j < nA := by omega
      have ih4 := ih
      refine lv_iload_n hx hb dX4_kindCount_4 rfl (lv_at hl 0 rfl) ?_
      refine lv_aload_n hx hb dX4_kindCount_5 rfl (lv_at hl 2 rfl) ?_
      refine w_get (v := .int (nI nA)) X hW 0 0 Nat.zero_lt_one rfl rfl inG4 4 (by decide) g53 (congrArg (fun z => some (Value.int z)) hs.1) dX4_kindCount_6 ?_
      refine lv_icmp_ge (tgt := 42) hx hb dX4_kindCount_9 (by decide) (fun c_2 => absurd c_2 (nI_ge (a := j) (b := nA) (by omega) (by omega))) (fun _ => ?_)
      refine lv_aload_n hx hb dX4_kindCount_12 rfl (lv_at hl 2 rfl) ?_
      refine lv_iload_n hx hb dX4_kindCount_13 rfl (lv_at hl 0 rfl) ?_
      refine w_cV1 X hS (m_X4_answerAt l G ad nA nK I J (nI j) hs) rfl rfl g99 g1 g96 g98 p1 hd_X4_answerAt ⟨Nat.le_of_ble_eq_true rfl, Nat.le_of_ble_eq_true rfl⟩ (k_rec X hW 0 0 Nat.zero_lt_one rfl rfl) hW hl.1 rfl (Nat.le_of_ble_eq_true rfl) dX4_kindCount_14 (Nat.zero_le _) (Nat.zero_le _) (fun H locs hW hS => ?_)
      rw [kAns_lt (n := nA) (a := j) (by omega) (by omega)]
      refine lv_astore (lv' := [(4, .ref (ad 8 j)), (3, .int (nI j)), (2, .int n), (0, .ref (ad 0 0)), (1, .int k)]) hx hb dX4_kindCount_17 hl (by decide) rfl (fun ls hl => ?_)
      refine lv_aload hx hb dX4_kindCount_19 (lv_at hl 0 rfl) ?_
      refine lv_ifnull hx hb dX4_kindCount_21 ?_
      refine lv_aload hx hb dX4_kindCount_24 (lv_at hl 0 rfl) ?_
      refine w_cV1 X hS (m_X0_kindNow l G ad nA nK I J j (show j < nA by omega)) rfl rfl g270 g5 g267 g268 g269 hd_X0_kindNow ⟨Nat.le_of_ble_eq_true rfl, Nat.le_of_ble_eq_true rfl⟩ (k_rec X hW 8 j (show j < nA by omega) rfl rfl) hW hl.1 rfl (Nat.le_of_ble_eq_true rfl) dX4_kindCount_26 (Nat.zero_le _) (Nat.zero_le _) (fun H locs hW hS => ?_)
      refine lv_iload_n hx hb dX4_kindCount_29 rfl (lv_at hl 4 rfl) ?_
      refine lv_icmp_ne (tgt := 36) hx hb dX4_kindCount_30 (by decide) (fun c_3 => ?_) (fun c_3 => ?_)
      · skip
        refine lv_iinc (v := nI (j + 1)) (lv' := [(3, .int (nI (j + 1))), (4, .ref (ad 8 j)), (2, .int n), (0, .ref (ad 0 0)), (1, .int k)]) hx hb dX4_kindCount_36 hl (k := 1) rfl (nI_1 j) (by decide) rfl (fun ls hl => ?_)
        refine lv_goto (tgt := 4) hx hb dX4_kindCount_39 (by decide) ?_
        exact ih4 (j + 1) n (by omega) (by first | exact hz4 | (rw [← hz4]; simp [kLoop, c_3]; done) | (simp [← hz4, kLoop, c_3]; done) | (rw [← hz4]; simp only [kLoop, c_3, eq_self, if_true, if_false, Bool.false_eq_true, decide_true, decide_false, Bool.not_true, Bool.not_false, Bool.false_or, Bool.true_or, Bool.and_true, Bool.true_and, Bool.false_and, Bool.and_false, Bool.or_true, Bool.or_false]; done)) _ _ hW hS ls (lv_sub hl [0, 2, 3, 4] rfl)
      · skip
        refine lv_iinc (v := n + 1) (lv' := [(2, .int (n + 1)), (4, .ref (ad 8 j)), (3, .int (nI j)), (0, .ref (ad 0 0)), (1, .int k)]) hx hb dX4_kindCount_33 hl (k := 2) rfl rfl (by decide) rfl (fun ls hl => ?_)
        refine lv_iinc (v := nI (j + 1)) (lv' := [(3, .int (nI (j + 1))), (2, .int (n + 1)), (4, .ref (ad 8 j)), (0, .ref (ad 0 0)), (1, .int k)]) hx hb dX4_kindCount_36 hl (k := 2) rfl (nI_1 j) (by decide) rfl (fun ls hl => ?_)
        refine lv_goto (tgt := 4) hx hb dX4_kindCount_39 (by decide) ?_
        exact ih4 (j + 1) (n + 1) (by omega) (by first | exact hz4 | (rw [← hz4]; simp [kLoop, c_3]; done) | (simp [← hz4, kLoop, c_3]; done) | (rw [← hz4]; simp only [kLoop, c_3, eq_self, if_true, if_false, Bool.false_eq_true, decide_true, decide_false, Bool.not_true, Bool.not_false, Bool.false_or, Bool.true_or, Bool.and_true, Bool.true_and, Bool.false_and, Bool.and_false, Bool.or_true, Bool.or_false]; done)) _ _ hW hS ls (lv_sub hl [0, 1, 3, 4] rfl)
  exact loop4 nA 0 0 (by omega) rfl _ _ hW hS ls (lv_sub hl [0, 1, 2, 3] rfl)
set_option maxHeartbeats 4000000 in
set_option maxRecDepth 100000 in
theorem m_X4_doubtedCount (l : Launch) (G : k_G) (ad : Nat → Nat → Nat) (nA nK : Nat) (I : k_I) (J : k_J) (hs : k_S nA nK I) : k_Met l yX4_doubtedCount cX4_doubtedCount 4 (some FieldType.int) { frames := 2, cells := 0, slots := 0, locals := 40 } G [.ref (ad 0 0)] (Wd G ad nA nK I J) (some (.int (kDoubtN nA I))) (Wd G ad nA nK I J) 0 0 := by
  refine k_body (by decide) (Nat.le_of_ble_eq_true rfl) ?_
  intro p e s m below meth c ls X hr hlk hnm hW hS hl
  have hx := X.1.1
  have hb := X.1.2.1
  have hG := X.1.2.2.2.2
  have hA24 := hs.2.2.1
  have hK30 := hs.2.2.2.1
  have hl : lv_has ls 4 [(0, .ref (ad 0 0))] := hl
  refine lv_iconst (v := 0) hx hb dX4_doubtedCount_0 (by decide) ?_
  refine lv_istore_n (lv' := [(1, .int 0), (0, .ref (ad 0 0))]) hx hb dX4_doubtedCount_1 rfl hl (by decide) rfl (fun ls hl => ?_)
  refine lv_iconst (v := 0) hx hb dX4_doubtedCount_2 (by decide) ?_
  refine lv_istore_n (lv' := [(2, .int 0), (1, .int 0), (0, .ref (ad 0 0))]) hx hb dX4_doubtedCount_3 rfl hl (by decide) rfl (fun ls hl => ?_)
  have loop4 : ∀ (d j : Nat) (n : Int32), j + d = nA → (kLoop (fun a n => if kDoubted I a then n + 1 else n) d j n = kDoubtN nA I) → ∀ (H : Heap) (locs : List Loc), Wd G ad nA nK I J H → va_S (k_A G) s.heap H locs → ∀ ls : Array Slot, lv_has ls 4 [(2, .int (nI j)), (1, .int n), (0, .ref (ad 0 0))] → W p l e { frames := 2, cells := 0, slots := 0, locals := 40 } s m ([.ref (ad 0 0)] : List Value).toArray below meth c H locs 0 0 (MQ below (k_Q G (some (.int (kDoubtN nA I))) (Wd G ad nA nK I J)) ([.ref (ad 0 0)] : List Value).toArray s 0 0 (k_A G)) (F0 m 4 ls []) := by
    intro d
    induction d with
    | zero =>
      intro j n hi4 hz4  H locs hW hS ls hl
      refine lv_iload_n hx hb dX4_doubtedCount_4 rfl (lv_at hl 0 rfl) ?_
      refine lv_aload_n hx hb dX4_doubtedCount_5 rfl (lv_at hl 2 rfl) ?_
      refine w_get (v := .int (nI nA)) X hW 0 0 Nat.zero_lt_one rfl rfl inG4 4 (by decide) g53 (congrArg (fun z => some (Value.int z)) hs.1) dX4_doubtedCount_6 ?_
      refine lv_icmp_ge (tgt := 38) hx hb dX4_doubtedCount_9 (by decide) (fun _ => ?_) (fun c_1 => absurd (nI_le (a := nA) (b := j) (by omega) (by omega)) c_1)
      refine lv_iload_n hx hb dX4_doubtedCount_38 rfl (lv_at hl 1 rfl) ?_
      exact w_iret X hr hlk hS (by first | exact hz4 | (rw [← hz4]; simp [kLoop]; done) | (simp [← hz4, kLoop]; done) | (rw [← hz4]; simp only [kLoop, eq_self, if_true, if_false, Bool.false_eq_true, decide_true, decide_false, Bool.not_true, Bool.not_false, Bool.false_or, Bool.true_or, Bool.and_true, Bool.true_and, Bool.false_and, Bool.and_false, Bool.or_true, Bool.or_false]; done) | (simp [kLoop]; done)) hW dX4_doubtedCount_39
    | succ d ih =>
      intro j n hi4 hz4  H locs hW hS ls hl
      have hlt4 : j < nA := by omega
      have ih4 := ih
      refine lv_iload_n hx hb dX4_doubtedCount_4 rfl (lv_at hl 0 rfl) ?_
      refine lv_aload_n hx hb dX4_doubtedCount_5 rfl (lv_at hl 2 rfl) ?_
      refine w_get (v := .int (nI nA)) X hW 0 0 Nat.zero_lt_one rfl rfl inG4 4 (by decide) g53 (congrArg (fun z => some (Value.int z)) hs.1) dX4_doubtedCount_6 ?_
      refine lv_icmp_ge (tgt := 38) hx hb dX4_doubtedCount_9 (by decide) (fun c_2 => absurd c_2 (nI_ge (a := j) (b := nA) (by omega) (by omega))) (fun _ => ?_)
      refine lv_aload_n hx hb dX4_doubtedCount_12 rfl (lv_at hl 2 rfl) ?_
      refine lv_iload_n hx hb dX4_doubtedCount_13 rfl (lv_at hl 0 rfl) ?_
      refine w_cV1 X hS (m_X4_answerAt l G ad nA nK I J (nI j) hs) rfl rfl g99 g1 g96 g98 p1 hd_X4_answerAt ⟨Nat.le_of_ble_eq_true rfl, Nat.le_of_ble_eq_true rfl⟩ (k_rec X hW 0 0 Nat.zero_lt_one rfl rfl) hW hl.1 rfl (Nat.le_of_ble_eq_true rfl) dX4_doubtedCount_14 (Nat.zero_le _) (Nat.zero_le _) (fun H locs hW hS => ?_)
      rw [kAns_lt (n := nA) (a := j) (by omega) (by omega)]
      refine lv_astore_n (lv' := [(3, .ref (ad 8 j)), (2, .int (nI j)), (1, .int n), (0, .ref (ad 0 0))]) hx hb dX4_doubtedCount_17 rfl hl (by decide) rfl (fun ls hl => ?_)
      refine lv_aload_n hx hb dX4_doubtedCount_18 rfl (lv_at hl 0 rfl) ?_
      refine lv_ifnull hx hb dX4_doubtedCount_19 ?_
      refine lv_aload_n hx hb dX4_doubtedCount_22 rfl (lv_at hl 0 rfl) ?_
      refine w_cV1 X hS (m_X0_isDoubted l G ad nA nK I J j (show j < nA by omega)) rfl rfl g290 g5 g287 g288 g289 hd_X0_isDoubted ⟨Nat.le_of_ble_eq_true rfl, Nat.le_of_ble_eq_true rfl⟩ (k_rec X hW 8 j (show j < nA by omega) rfl rfl) hW hl.1 rfl (Nat.le_of_ble_eq_true rfl) dX4_doubtedCount_23 (Nat.zero_le _) (Nat.zero_le _) (fun H locs hW hS => ?_)
      refine lb_if_eq (tgt := 32) hx hb dX4_doubtedCount_26 (by decide) (fun c_3 => ?_) (fun c_3 => ?_)
      · skip
        refine lv_iinc (v := nI (j + 1)) (lv' := [(2, .int (nI (j + 1))), (3, .ref (ad 8 j)), (1, .int n), (0, .ref (ad 0 0))]) hx hb dX4_doubtedCount_32 hl (k := 1) rfl (nI_1 j) (by decide) rfl (fun ls hl => ?_)
        refine lv_goto (tgt := 4) hx hb dX4_doubtedCount_35 (by decide) ?_
        exact ih4 (j + 1) n (by omega) (by first | exact hz4 | (rw [← hz4]; simp [kLoop, c_3]; done) | (simp [← hz4, kLoop, c_3]; done) | (rw [← hz4]; simp only [kLoop, c_3, eq_self, if_true, if_false, Bool.false_eq_true, decide_true, decide_false, Bool.not_true, Bool.not_false, Bool.false_or, Bool.true_or, Bool.and_true, Bool.true_and, Bool.false_and, Bool.and_false, Bool.or_true, Bool.or_false]; done)) _ _ hW hS ls (lv_sub hl [0, 2, 3] rfl)
      · skip
        refine lv_iinc (v := n + 1) (lv' := [(1, .int (n + 1)), (3, .ref (ad 8 j)), (2, .int (nI j)), (0, .ref (ad 0 0))]) hx hb dX4_doubtedCount_29 hl (k := 2) rfl rfl (by decide) rfl (fun ls hl => ?_)
        refine lv_iinc (v := nI (j + 1)) (lv' := [(2, .int (nI (j + 1))), (1, .int (n + 1)), (3, .ref (ad 8 j)), (0, .ref (ad 0 0))]) hx hb dX4_doubtedCount_32 hl (k := 2) rfl (nI_1 j) (by decide) rfl (fun ls hl => ?_)
        refine lv_goto (tgt := 4) hx hb dX4_doubtedCount_35 (by decide) ?_
        exact ih4 (j + 1) (n + 1) (by omega) (by first | exact hz4 | (rw [← hz4]; simp [kLoop, c_3]; done) | (simp [← hz4, kLoop, c_3]; done) | (rw [← hz4]; simp only [kLoop, c_3, eq_self, if_true, if_false, Bool.false_eq_true, decide_true, decide_false, Bool.not_true, Bool.not_false, Bool.false_or, Bool.true_or, Bool.and_true, Bool.true_and, Bool.false_and, Bool.and_false, Bool.or_true, Bool.or_false]; done)) _ _ hW hS ls (lv_sub hl [0, 1, 3] rfl)
  exact loop4 nA 0 0 (by omega) rfl _ _ hW hS ls (lv_sub hl [0, 1, 2] rfl)
set_option maxHeartbeats 4000000 in
set_option maxRecDepth 100000 in
theorem m_X4_areQuarrelling (l : Launch) (G : k_G) (ad : Nat → Nat → Nat) (nA nK : Nat) (I : k_I) (J : k_J) (i : Nat) (j : Nat) (hi : i < nA) (hj : j < nA) : k_Met l yX4_areQuarrelling cX4_areQuarrelling 4 (some FieldType.boolean) { frames := 2, cells := 0, slots := 0, locals := 44 } G [.ref (ad 0 0), .ref (ad 8 i), .ref (ad 8 j)] (Wd G ad nA nK I J) (some (.int (k_b (kQuar I J i j)))) (Wd G ad nA nK I J) 0 0 := by
  refine k_body (by decide) (Nat.le_of_ble_eq_true rfl) ?_
  intro p e s m below meth c ls X hr hlk hnm hW hS hl
  have hx := X.1.1
  have hb := X.1.2.1
  have hG := X.1.2.2.2.2
  have hl : lv_has ls 4 [(0, .ref (ad 0 0)), (1, .ref (ad 8 i)), (2, .ref (ad 8 j))] := hl
  refine lv_aload_n hx hb dX4_areQuarrelling_0 rfl (lv_at hl 1 rfl) ?_
  refine lv_ifnull hx hb dX4_areQuarrelling_1 ?_
  refine lv_aload_n hx hb dX4_areQuarrelling_4 rfl (lv_at hl 2 rfl) ?_
  refine lv_ifnull hx hb dX4_areQuarrelling_5 ?_
  refine lv_aload_n hx hb dX4_areQuarrelling_8 rfl (lv_at hl 1 rfl) ?_
  refine w_cV1 X hS (m_X0_kindNow l G ad nA nK I J i hi) rfl rfl g270 g5 g267 g268 g269 hd_X0_kindNow ⟨Nat.le_of_ble_eq_true rfl, Nat.le_of_ble_eq_true rfl⟩ (k_rec X hW 8 i hi rfl rfl) hW hl.1 rfl (Nat.le_of_ble_eq_true rfl) dX4_areQuarrelling_9 (Nat.zero_le _) (Nat.zero_le _) (fun H locs hW hS => ?_)
  refine lv_if_ne (tgt := 33) hx hb dX4_areQuarrelling_12 (by decide) (fun c_1 => ?_) (fun c_1 => ?_)
  · skip
    refine lv_iconst (v := 0) hx hb dX4_areQuarrelling_33 (by decide) ?_
    exact w_zret X hr hlk hS (by first | rfl | (simp [kQuar, k_b, c_1]; done) | (simp [kQuar, k_b, c_1]; rfl)) (k_b_n _) hW dX4_areQuarrelling_34
  · skip
    refine lv_aload_n hx hb dX4_areQuarrelling_15 rfl (lv_at hl 2 rfl) ?_
    refine w_cV1 X hS (m_X0_kindNow l G ad nA nK I J j hj) rfl rfl g270 g5 g267 g268 g269 hd_X0_kindNow ⟨Nat.le_of_ble_eq_true rfl, Nat.le_of_ble_eq_true rfl⟩ (k_rec X hW 8 j hj rfl rfl) hW hl.1 rfl (Nat.le_of_ble_eq_true rfl) dX4_areQuarrelling_16 (Nat.zero_le _) (Nat.zero_le _) (fun H locs hW hS => ?_)
    refine lv_if_ne (tgt := 33) hx hb dX4_areQuarrelling_19 (by decide) (fun c_2 => ?_) (fun c_2 => ?_)
    · skip
      refine lv_iconst (v := 0) hx hb dX4_areQuarrelling_33 (by decide) ?_
      exact w_zret X hr hlk hS (by first | rfl | (simp [kQuar, k_b, c_1, c_2]; done) | (simp [kQuar, k_b, c_1, c_2]; rfl)) (k_b_n _) hW dX4_areQuarrelling_34
    · skip
      refine lv_aload_n hx hb dX4_areQuarrelling_22 rfl (lv_at hl 1 rfl) ?_
      refine w_get X hW 8 i hi rfl rfl inG0 2 (by decide) g191 rfl dX4_areQuarrelling_23 ?_
      refine lv_aload_n hx hb dX4_areQuarrelling_26 rfl (lv_at hl 2 rfl) ?_
      refine w_get X hW 8 j hj rfl rfl inG0 2 (by decide) g191 rfl dX4_areQuarrelling_27 ?_
      refine lv_icmp_ne (tgt := 35) hx hb dX4_areQuarrelling_30 (by decide) (fun c_3 => ?_) (fun c_3 => ?_)
      · skip
        refine lv_iconst (v := 0) hx hb dX4_areQuarrelling_35 (by decide) ?_
        refine lv_istore_n (lv' := [(3, .int 0), (0, .ref (ad 0 0)), (1, .ref (ad 8 i)), (2, .ref (ad 8 j))]) hx hb dX4_areQuarrelling_36 rfl hl (by decide) rfl (fun ls hl => ?_)
        have loop37 : ∀ (d a : Nat), a + d = 3 → ((!kAny (fun a => decide (kSet I i (nI a) &&& kSet I j (nI a) = 0)) d a && !decide (I 0 0 6 < kFar (J 8 i 10) (J 8 j 10))) = kQuar I J i j) → ∀ (H : Heap) (locs : List Loc), Wd G ad nA nK I J H → va_S (k_A G) s.heap H locs → ∀ ls : Array Slot, lv_has ls 4 [(3, .int (nI a)), (0, .ref (ad 0 0)), (1, .ref (ad 8 i)), (2, .ref (ad 8 j))] → W p l e { frames := 2, cells := 0, slots := 0, locals := 44 } s m ([.ref (ad 0 0), .ref (ad 8 i), .ref (ad 8 j)] : List Value).toArray below meth c H locs 0 0 (MQ below (k_Q G (some (.int (k_b (kQuar I J i j)))) (Wd G ad nA nK I J)) ([.ref (ad 0 0), .ref (ad 8 i), .ref (ad 8 j)] : List Value).toArray s 0 0 (k_A G)) (F0 m 37 ls []) := by
          intro d
          induction d with
          | zero =>
            intro a hi37 hz37  H locs hW hS ls hl
            refine lv_iload_n hx hb dX4_areQuarrelling_37 rfl (lv_at hl 0 rfl) ?_
            refine lv_iconst (v := 3) hx hb dX4_areQuarrelling_38 (by decide) ?_
            refine lv_icmp_ge (tgt := 64) hx hb dX4_areQuarrelling_39 (by decide) (fun _ => ?_) (fun c_4 => absurd (nI_le (a := 3) (b := a) (by omega) (by omega)) c_4)
            refine lv_aload_n hx hb dX4_areQuarrelling_64 rfl (lv_at hl 2 rfl) ?_
            refine w_get X hW 8 i hi rfl rfl inG0 10 (by decide) g205 rfl dX4_areQuarrelling_65 ?_
            refine lv_aload_n hx hb dX4_areQuarrelling_68 rfl (lv_at hl 3 rfl) ?_
            refine w_get X hW 8 j hj rfl rfl inG0 10 (by decide) g205 rfl dX4_areQuarrelling_69 ?_
            refine w_cS1 X hS (m_X4_far l G (Wd G ad nA nK I J) (J 8 i 10) (J 8 j 10) ) rfl rfl g376 g1 g374 g375 hd_X4_far ⟨Nat.le_of_ble_eq_true rfl, Nat.le_of_ble_eq_true rfl⟩ hW hl.1 rfl (Nat.le_of_ble_eq_true rfl) dX4_areQuarrelling_72 (Nat.zero_le _) (Nat.zero_le _) (fun H locs hW hS => ?_)
            refine lv_aload_n hx hb dX4_areQuarrelling_75 rfl (lv_at hl 1 rfl) ?_
            refine w_get X hW 0 0 Nat.zero_lt_one rfl rfl inG4 6 (by decide) g55 rfl dX4_areQuarrelling_76 ?_
            refine lv_icmp_gt (tgt := 86) hx hb dX4_areQuarrelling_79 (by decide) (fun c_5 => ?_) (fun c_5 => ?_)
            · skip
              refine lv_iconst (v := 0) hx hb dX4_areQuarrelling_86 (by decide) ?_
              exact w_zret X hr hlk hS (by first | exact hz37 | (rw [← hz37]; simp [kAny, k_b, kQuar, c_1, c_2, c_3, c_5]; done) | (simp [← hz37, kAny, k_b, kQuar, c_1, c_2, c_3, c_5]; done) | (rw [← hz37]; simp only [kAny, k_b, kQuar, c_1, c_2, c_3, c_5, eq_self, if_true, if_false, Bool.false_eq_true, decide_true, decide_false, Bool.not_true, Bool.not_false, Bool.false_or, Bool.true_or, Bool.and_true, Bool.true_and, Bool.false_and, Bool.and_false, Bool.or_true, Bool.or_false]; done) | (simp [kAny, k_b, kQuar, c_1, c_2, c_3, c_5]; done)) (k_b_n _) hW dX4_areQuarrelling_87
            · skip
              refine lv_iconst (v := 1) hx hb dX4_areQuarrelling_82 (by decide) ?_
              refine lv_goto (tgt := 87) hx hb dX4_areQuarrelling_83 (by decide) ?_
              exact w_zret X hr hlk hS (by first | exact hz37 | (rw [← hz37]; simp [kAny, k_b, kQuar, c_1, c_2, c_3, c_5]; done) | (simp [← hz37, kAny, k_b, kQuar, c_1, c_2, c_3, c_5]; done) | (rw [← hz37]; simp only [kAny, k_b, kQuar, c_1, c_2, c_3, c_5, eq_self, if_true, if_false, Bool.false_eq_true, decide_true, decide_false, Bool.not_true, Bool.not_false, Bool.false_or, Bool.true_or, Bool.and_true, Bool.true_and, Bool.false_and, Bool.and_false, Bool.or_true, Bool.or_false]; done) | (simp [kAny, k_b, kQuar, c_1, c_2, c_3, c_5]; done)) (k_b_n _) hW dX4_areQuarrelling_87
          | succ d ih =>
            intro a hi37 hz37  H locs hW hS ls hl
            have hlt37 : a < 3 := by omega
            have ih37 := ih
            refine lv_iload_n hx hb dX4_areQuarrelling_37 rfl (lv_at hl 0 rfl) ?_
            refine lv_iconst (v := 3) hx hb dX4_areQuarrelling_38 (by decide) ?_
            refine lv_icmp_ge (tgt := 64) hx hb dX4_areQuarrelling_39 (by decide) (fun c_6 => absurd c_6 (nI_ge (a := a) (b := 3) (by omega) (by omega))) (fun _ => ?_)
            refine lv_aload_n hx hb dX4_areQuarrelling_42 rfl (lv_at hl 2 rfl) ?_
            refine lv_iload_n hx hb dX4_areQuarrelling_43 rfl (lv_at hl 0 rfl) ?_
            refine w_cV1 X hS (m_X0_setOf l G ad nA nK I J i (nI a) hi) rfl rfl g152 g5 g310 g150 g151 hd_X0_setOf ⟨Nat.le_of_ble_eq_true rfl, Nat.le_of_ble_eq_true rfl⟩ (k_rec X hW 8 i hi rfl rfl) hW hl.1 rfl (Nat.le_of_ble_eq_true rfl) dX4_areQuarrelling_44 (Nat.zero_le _) (Nat.zero_le _) (fun H locs hW hS => ?_)
            refine lv_aload_n hx hb dX4_areQuarrelling_47 rfl (lv_at hl 3 rfl) ?_
            refine lv_iload_n hx hb dX4_areQuarrelling_48 rfl (lv_at hl 0 rfl) ?_
            refine w_cV1 X hS (m_X0_setOf l G ad nA nK I J j (nI a) hj) rfl rfl g152 g5 g310 g150 g151 hd_X0_setOf ⟨Nat.le_of_ble_eq_true rfl, Nat.le_of_ble_eq_true rfl⟩ (k_rec X hW 8 j hj rfl rfl) hW hl.1 rfl (Nat.le_of_ble_eq_true rfl) dX4_areQuarrelling_49 (Nat.zero_le _) (Nat.zero_le _) (fun H locs hW hS => ?_)
            refine lv_iand hx hb dX4_areQuarrelling_52 ?_
            refine lv_if_ne (tgt := 58) hx hb dX4_areQuarrelling_53 (by decide) (fun c_7 => ?_) (fun c_7 => ?_)
            · skip
              refine lv_iinc (v := nI (a + 1)) (lv' := [(3, .int (nI (a + 1))), (0, .ref (ad 0 0)), (1, .ref (ad 8 i)), (2, .ref (ad 8 j))]) hx hb dX4_areQuarrelling_58 hl (k := 0) rfl (nI_1 a) (by decide) rfl (fun ls hl => ?_)
              refine lv_goto (tgt := 37) hx hb dX4_areQuarrelling_61 (by decide) ?_
              exact ih37 (a + 1) (by omega) (by first | exact hz37 | (rw [← hz37]; simp [kAny, k_b, kQuar, c_1, c_2, c_3, c_7]; done) | (simp [← hz37, kAny, k_b, kQuar, c_1, c_2, c_3, c_7]; done) | (rw [← hz37]; simp only [kAny, k_b, kQuar, c_1, c_2, c_3, c_7, eq_self, if_true, if_false, Bool.false_eq_true, decide_true, decide_false, Bool.not_true, Bool.not_false, Bool.false_or, Bool.true_or, Bool.and_true, Bool.true_and, Bool.false_and, Bool.and_false, Bool.or_true, Bool.or_false]; done)) _ _ hW hS ls (lv_sub hl [0, 1, 2, 3] rfl)
            · skip
              refine lv_iconst (v := 0) hx hb dX4_areQuarrelling_56 (by decide) ?_
              exact w_zret X hr hlk hS (by first | exact hz37 | (rw [← hz37]; simp [kAny, k_b, kQuar, c_1, c_2, c_3, c_7]; done) | (simp [← hz37, kAny, k_b, kQuar, c_1, c_2, c_3, c_7]; done) | (rw [← hz37]; simp only [kAny, k_b, kQuar, c_1, c_2, c_3, c_7, eq_self, if_true, if_false, Bool.false_eq_true, decide_true, decide_false, Bool.not_true, Bool.not_false, Bool.false_or, Bool.true_or, Bool.and_true, Bool.true_and, Bool.false_and, Bool.and_false, Bool.or_true, Bool.or_false]; done) | (simp [kAny, k_b, kQuar, c_1, c_2, c_3, c_7]; done)) (k_b_n _) hW dX4_areQuarrelling_57
        exact loop37 3 0 (by omega) (by simp [kQuar, c_1, c_2, c_3]) _ _ hW hS ls (lv_sub hl [0, 1, 2, 3] rfl)
      · skip
        refine lv_iconst (v := 0) hx hb dX4_areQuarrelling_33 (by decide) ?_
        exact w_zret X hr hlk hS (by first | rfl | (simp [kQuar, k_b, c_1, c_2, c_3]; done) | (simp [kQuar, k_b, c_1, c_2, c_3]; rfl)) (k_b_n _) hW dX4_areQuarrelling_34
set_option maxHeartbeats 4000000 in
set_option maxRecDepth 100000 in
theorem m_X4_quarrelCount (l : Launch) (G : k_G) (ad : Nat → Nat → Nat) (nA nK : Nat) (I : k_I) (J : k_J) (hs : k_S nA nK I) : k_Met l yX4_quarrelCount cX4_quarrelCount 4 (some FieldType.int) { frames := 3, cells := 0, slots := 0, locals := 67 } G [.ref (ad 0 0)] (Wd G ad nA nK I J) (some (.int (kQuarN nA I J))) (Wd G ad nA nK I J) 0 0 := by
  refine k_body (by decide) (Nat.le_of_ble_eq_true rfl) ?_
  intro p e s m below meth c ls X hr hlk hnm hW hS hl
  have hx := X.1.1
  have hb := X.1.2.1
  have hG := X.1.2.2.2.2
  have hA24 := hs.2.2.1
  have hK30 := hs.2.2.2.1
  have hl : lv_has ls 4 [(0, .ref (ad 0 0))] := hl
  refine lv_iconst (v := 0) hx hb dX4_quarrelCount_0 (by decide) ?_
  refine lv_istore_n (lv' := [(1, .int 0), (0, .ref (ad 0 0))]) hx hb dX4_quarrelCount_1 rfl hl (by decide) rfl (fun ls hl => ?_)
  refine lv_iconst (v := 0) hx hb dX4_quarrelCount_2 (by decide) ?_
  refine lv_istore_n (lv' := [(2, .int 0), (1, .int 0), (0, .ref (ad 0 0))]) hx hb dX4_quarrelCount_3 rfl hl (by decide) rfl (fun ls hl => ?_)
  have loop4 : ∀ (d a : Nat) (n : Int32), a + d = nA → (kLoop (fun a n => kQuarRow nA I J a n) d a n = kQuarN nA I J) → ∀ (H : Heap) (locs : List Loc), Wd G ad nA nK I J H → va_S (k_A G) s.heap H locs → ∀ ls : Array Slot, lv_has ls 4 [(2, .int (nI a)), (1, .int n), (0, .ref (ad 0 0))] → W p l e { frames := 3, cells := 0, slots := 0, locals := 67 } s m ([.ref (ad 0 0)] : List Value).toArray below meth c H locs 0 0 (MQ below (k_Q G (some (.int (kQuarN nA I J))) (Wd G ad nA nK I J)) ([.ref (ad 0 0)] : List Value).toArray s 0 0 (k_A G)) (F0 m 4 ls []) := by
    intro d
    induction d with
    | zero =>
      intro a n hi4 hz4  H locs hW hS ls hl
      refine lv_iload_n hx hb dX4_quarrelCount_4 rfl (lv_at hl 0 rfl) ?_
      refine lv_aload_n hx hb dX4_quarrelCount_5 rfl (lv_at hl 2 rfl) ?_
      refine w_get (v := .int (nI nA)) X hW 0 0 Nat.zero_lt_one rfl rfl inG4 4 (by decide) g53 (congrArg (fun z => some (Value.int z)) hs.1) dX4_quarrelCount_6 ?_
      refine lv_icmp_ge (tgt := 56) hx hb dX4_quarrelCount_9 (by decide) (fun _ => ?_) (fun c_1 => absurd (nI_le (a := nA) (b := a) (by omega) (by omega)) c_1)
      refine lv_iload_n hx hb dX4_quarrelCount_56 rfl (lv_at hl 1 rfl) ?_
      exact w_iret X hr hlk hS (by first | exact hz4 | (rw [← hz4]; simp [kLoop]; done) | (simp [← hz4, kLoop]; done) | (rw [← hz4]; simp only [kLoop, eq_self, if_true, if_false, Bool.false_eq_true, decide_true, decide_false, Bool.not_true, Bool.not_false, Bool.false_or, Bool.true_or, Bool.and_true, Bool.true_and, Bool.false_and, Bool.and_false, Bool.or_true, Bool.or_false]; done) | (simp [kLoop]; done)) hW dX4_quarrelCount_57
    | succ d ih =>
      intro a n hi4 hz4  H locs hW hS ls hl
      have hlt4 : a < nA := by omega
      have ih4 := ih
      refine lv_iload_n hx hb dX4_quarrelCount_4 rfl (lv_at hl 0 rfl) ?_
      refine lv_aload_n hx hb dX4_quarrelCount_5 rfl (lv_at hl 2 rfl) ?_
      refine w_get (v := .int (nI nA)) X hW 0 0 Nat.zero_lt_one rfl rfl inG4 4 (by decide) g53 (congrArg (fun z => some (Value.int z)) hs.1) dX4_quarrelCount_6 ?_
      refine lv_icmp_ge (tgt := 56) hx hb dX4_quarrelCount_9 (by decide) (fun c_2 => absurd c_2 (nI_ge (a := a) (b := nA) (by omega) (by omega))) (fun _ => ?_)
      refine lv_iload_n hx hb dX4_quarrelCount_12 rfl (lv_at hl 0 rfl) ?_
      refine lv_iconst (v := 1) hx hb dX4_quarrelCount_13 (by decide) ?_
      refine lw_iaddN (a := a) (b := 1) hx hb dX4_quarrelCount_14 ?_
      refine lv_istore_n (lv' := [(3, .int (nI (a + 1))), (2, .int (nI a)), (1, .int n), (0, .ref (ad 0 0))]) hx hb dX4_quarrelCount_15 rfl hl (by decide) rfl (fun ls hl => ?_)
      have loop16 : ∀ (d2 b : Nat) (n2 : Int32), b + d2 = nA → (kLoop (fun b n => if kQuar I J a b then n + 1 else n) d2 b n2 = kQuarRow nA I J a n) → ∀ (H : Heap) (locs : List Loc), Wd G ad nA nK I J H → va_S (k_A G) s.heap H locs → ∀ ls : Array Slot, lv_has ls 4 [(3, .int (nI b)), (1, .int n2), (2, .int (nI a)), (0, .ref (ad 0 0))] → W p l e { frames := 3, cells := 0, slots := 0, locals := 67 } s m ([.ref (ad 0 0)] : List Value).toArray below meth c H locs 0 0 (MQ below (k_Q G (some (.int (kQuarN nA I J))) (Wd G ad nA nK I J)) ([.ref (ad 0 0)] : List Value).toArray s 0 0 (k_A G)) (F0 m 16 ls []) := by
        intro d2
        induction d2 with
        | zero =>
          intro b n2 hi16 hz16  H locs hW hS ls hl
          have hz16 : n2 = kQuarRow nA I J a n := hz16
          refine lv_iload_n hx hb dX4_quarrelCount_16 rfl (lv_at hl 0 rfl) ?_
          refine lv_aload_n hx hb dX4_quarrelCount_17 rfl (lv_at hl 3 rfl) ?_
          refine w_get (v := .int (nI nA)) X hW 0 0 Nat.zero_lt_one rfl rfl inG4 4 (by decide) g53 (congrArg (fun z => some (Value.int z)) hs.1) dX4_quarrelCount_18 ?_
          refine lv_icmp_ge (tgt := 50) hx hb dX4_quarrelCount_21 (by decide) (fun _ => ?_) (fun c_3 => absurd (nI_le (a := nA) (b := b) (by omega) (by omega)) c_3)
          refine lv_iinc (v := nI (a + 1)) (lv' := [(2, .int (nI (a + 1))), (3, .int (nI b)), (1, .int n2), (0, .ref (ad 0 0))]) hx hb dX4_quarrelCount_50 hl (k := 2) rfl (nI_1 a) (by decide) rfl (fun ls hl => ?_)
          refine lv_goto (tgt := 4) hx hb dX4_quarrelCount_53 (by decide) ?_
          exact ih4 (a + 1) n2 (by omega) (by first | exact hz4 | (rw [← hz4]; simp [kLoop, hz16]; done) | (simp [← hz4, kLoop, hz16]; done) | (rw [← hz4]; simp only [kLoop, hz16, eq_self, if_true, if_false, Bool.false_eq_true, decide_true, decide_false, Bool.not_true, Bool.not_false, Bool.false_or, Bool.true_or, Bool.and_true, Bool.true_and, Bool.false_and, Bool.and_false, Bool.or_true, Bool.or_false]; done) | (simp only [hz16]; exact hz4)) _ _ hW hS ls (lv_sub hl [0, 2, 3] rfl)
        | succ d2 ih =>
          intro b n2 hi16 hz16  H locs hW hS ls hl
          have hlt16 : b < nA := by omega
          have ih16 := ih
          refine lv_iload_n hx hb dX4_quarrelCount_16 rfl (lv_at hl 0 rfl) ?_
          refine lv_aload_n hx hb dX4_quarrelCount_17 rfl (lv_at hl 3 rfl) ?_
          refine w_get (v := .int (nI nA)) X hW 0 0 Nat.zero_lt_one rfl rfl inG4 4 (by decide) g53 (congrArg (fun z => some (Value.int z)) hs.1) dX4_quarrelCount_18 ?_
          refine lv_icmp_ge (tgt := 50) hx hb dX4_quarrelCount_21 (by decide) (fun c_4 => absurd c_4 (nI_ge (a := b) (b := nA) (by omega) (by omega))) (fun _ => ?_)
          refine lv_aload_n hx hb dX4_quarrelCount_24 rfl (lv_at hl 3 rfl) ?_
          refine lv_aload_n hx hb dX4_quarrelCount_25 rfl (lv_at hl 3 rfl) ?_
          refine lv_iload_n hx hb dX4_quarrelCount_26 rfl (lv_at hl 2 rfl) ?_
          refine w_cV1 X hS (m_X4_answerAt l G ad nA nK I J (nI a) hs) rfl rfl g99 g1 g96 g98 p1 hd_X4_answerAt ⟨Nat.le_of_ble_eq_true rfl, Nat.le_of_ble_eq_true rfl⟩ (k_rec X hW 0 0 Nat.zero_lt_one rfl rfl) hW hl.1 rfl (Nat.le_of_ble_eq_true rfl) dX4_quarrelCount_27 (Nat.zero_le _) (Nat.zero_le _) (fun H locs hW hS => ?_)
          rw [kAns_lt (n := nA) (a := a) (by omega) (by omega)]
          refine lv_aload_n hx hb dX4_quarrelCount_30 rfl (lv_at hl 3 rfl) ?_
          refine lv_iload_n hx hb dX4_quarrelCount_31 rfl (lv_at hl 0 rfl) ?_
          refine w_cV1 X hS (m_X4_answerAt l G ad nA nK I J (nI b) hs) rfl rfl g99 g1 g96 g98 p1 hd_X4_answerAt ⟨Nat.le_of_ble_eq_true rfl, Nat.le_of_ble_eq_true rfl⟩ (k_rec X hW 0 0 Nat.zero_lt_one rfl rfl) hW hl.1 rfl (Nat.le_of_ble_eq_true rfl) dX4_quarrelCount_32 (Nat.zero_le _) (Nat.zero_le _) (fun H locs hW hS => ?_)
          rw [kAns_lt (n := nA) (a := b) (by omega) (by omega)]
          refine w_cV1 X hS (m_X4_areQuarrelling l G ad nA nK I J a b (show a < nA by omega) (show b < nA by omega)) rfl rfl g373 g1 g370 g372 p16 hd_X4_areQuarrelling ⟨Nat.le_of_ble_eq_true rfl, Nat.le_of_ble_eq_true rfl⟩ (k_rec X hW 0 0 Nat.zero_lt_one rfl rfl) hW hl.1 rfl (Nat.le_of_ble_eq_true rfl) dX4_quarrelCount_35 (Nat.zero_le _) (Nat.zero_le _) (fun H locs hW hS => ?_)
          refine lb_if_eq (tgt := 44) hx hb dX4_quarrelCount_38 (by decide) (fun c_5 => ?_) (fun c_5 => ?_)
          · skip
            refine lv_iinc (v := nI (b + 1)) (lv' := [(3, .int (nI (b + 1))), (1, .int n2), (2, .int (nI a)), (0, .ref (ad 0 0))]) hx hb dX4_quarrelCount_44 hl (k := 0) rfl (nI_1 b) (by decide) rfl (fun ls hl => ?_)
            refine lv_goto (tgt := 16) hx hb dX4_quarrelCount_47 (by decide) ?_
            exact ih16 (b + 1) n2 (by omega) (by first | exact hz16 | (rw [← hz16]; simp [kLoop, c_5]; done) | (simp [← hz16, kLoop, c_5]; done) | (rw [← hz16]; simp only [kLoop, c_5, eq_self, if_true, if_false, Bool.false_eq_true, decide_true, decide_false, Bool.not_true, Bool.not_false, Bool.false_or, Bool.true_or, Bool.and_true, Bool.true_and, Bool.false_and, Bool.and_false, Bool.or_true, Bool.or_false]; done)) _ _ hW hS ls (lv_sub hl [0, 1, 2, 3] rfl)
          · skip
            refine lv_iinc (v := n2 + 1) (lv' := [(1, .int (n2 + 1)), (3, .int (nI b)), (2, .int (nI a)), (0, .ref (ad 0 0))]) hx hb dX4_quarrelCount_41 hl (k := 1) rfl rfl (by decide) rfl (fun ls hl => ?_)
            refine lv_iinc (v := nI (b + 1)) (lv' := [(3, .int (nI (b + 1))), (1, .int (n2 + 1)), (2, .int (nI a)), (0, .ref (ad 0 0))]) hx hb dX4_quarrelCount_44 hl (k := 1) rfl (nI_1 b) (by decide) rfl (fun ls hl => ?_)
            refine lv_goto (tgt := 16) hx hb dX4_quarrelCount_47 (by decide) ?_
            exact ih16 (b + 1) (n2 + 1) (by omega) (by first | exact hz16 | (rw [← hz16]; simp [kLoop, c_5]; done) | (simp [← hz16, kLoop, c_5]; done) | (rw [← hz16]; simp only [kLoop, c_5, eq_self, if_true, if_false, Bool.false_eq_true, decide_true, decide_false, Bool.not_true, Bool.not_false, Bool.false_or, Bool.true_or, Bool.and_true, Bool.true_and, Bool.false_and, Bool.and_false, Bool.or_true, Bool.or_false]; done)) _ _ hW hS ls (lv_sub hl [0, 1, 2, 3] rfl)
      exact loop16 (nA - (a + 1)) (a + 1) n (by omega) rfl _ _ hW hS ls (lv_sub hl [0, 2, 1, 3] rfl)
  exact loop4 nA 0 0 (by omega) rfl _ _ hW hS ls (lv_sub hl [0, 1, 2] rfl)
set_option maxHeartbeats 4000000 in
set_option maxRecDepth 100000 in
theorem m_X4_quarrelPart (l : Launch) (G : k_G) (ad : Nat → Nat → Nat) (nA nK : Nat) (I : k_I) (J : k_J) (a : Nat) (b : Nat) (w : Int32) (hs : k_S nA nK I) (ha : a < nA) (hb : b < nA) : k_Met l yX4_quarrelPart cX4_quarrelPart 6 (some FieldType.int) { frames := 2, cells := 0, slots := 0, locals := 41 } G [.ref (ad 0 0), .int (nI a), .int (nI b), .int w] (Wd G ad nA nK I J) (some (.int (kQuarPart I a b w))) (Wd G ad nA nK I J) 0 0 := by
  refine k_body (by decide) (Nat.le_of_ble_eq_true rfl) ?_
  intro p e s m below meth c ls X hr hlk hnm hW hS hl
  have hx := X.1.1
  have hb := X.1.2.1
  have hG := X.1.2.2.2.2
  have hA24 := hs.2.2.1
  have hK30 := hs.2.2.2.1
  have hl : lv_has ls 6 [(0, .ref (ad 0 0)), (1, .int (nI a)), (2, .int (nI b)), (3, .int w)] := hl
  refine lv_aload_n hx hb dX4_quarrelPart_0 rfl (lv_at hl 0 rfl) ?_
  refine lv_iload_n hx hb dX4_quarrelPart_1 rfl (lv_at hl 1 rfl) ?_
  refine w_cV1 X hS (m_X4_answerAt l G ad nA nK I J (nI a) hs) rfl rfl g99 g1 g96 g98 p1 hd_X4_answerAt ⟨Nat.le_of_ble_eq_true rfl, Nat.le_of_ble_eq_true rfl⟩ (k_rec X hW 0 0 Nat.zero_lt_one rfl rfl) hW hl.1 rfl (Nat.le_of_ble_eq_true rfl) dX4_quarrelPart_2 (Nat.zero_le _) (Nat.zero_le _) (fun H locs hW hS => ?_)
  rw [kAns_lt (n := nA) (a := a) (by omega) (by omega)]
  refine lv_astore (lv' := [(4, .ref (ad 8 a)), (0, .ref (ad 0 0)), (1, .int (nI a)), (2, .int (nI b)), (3, .int w)]) hx hb dX4_quarrelPart_5 hl (by decide) rfl (fun ls hl => ?_)
  refine lv_aload_n hx hb dX4_quarrelPart_7 rfl (lv_at hl 1 rfl) ?_
  refine lv_iload_n hx hb dX4_quarrelPart_8 rfl (lv_at hl 3 rfl) ?_
  refine w_cV1 X hS (m_X4_answerAt l G ad nA nK I J (nI b) hs) rfl rfl g99 g1 g96 g98 p1 hd_X4_answerAt ⟨Nat.le_of_ble_eq_true rfl, Nat.le_of_ble_eq_true rfl⟩ (k_rec X hW 0 0 Nat.zero_lt_one rfl rfl) hW hl.1 rfl (Nat.le_of_ble_eq_true rfl) dX4_quarrelPart_9 (Nat.zero_le _) (Nat.zero_le _) (fun H locs hW hS => ?_)
  rw [kAns_lt (n := nA) (a := b) (by omega) (by omega)]
  refine lv_astore (lv' := [(5, .ref (ad 8 b)), (4, .ref (ad 8 a)), (0, .ref (ad 0 0)), (1, .int (nI a)), (2, .int (nI b)), (3, .int w)]) hx hb dX4_quarrelPart_12 hl (by decide) rfl (fun ls hl => ?_)
  refine lv_aload hx hb dX4_quarrelPart_14 (lv_at hl 1 rfl) ?_
  refine lv_ifnull hx hb dX4_quarrelPart_16 ?_
  refine lv_aload hx hb dX4_quarrelPart_19 (lv_at hl 0 rfl) ?_
  refine lv_ifnonnull (tgt := 26) hx hb dX4_quarrelPart_21 (by decide) ?_
  refine lv_iload_n hx hb dX4_quarrelPart_26 rfl (lv_at hl 5 rfl) ?_
  refine lv_if_ne (tgt := 34) hx hb dX4_quarrelPart_27 (by decide) (fun c_1 => ?_) (fun c_1 => ?_)
  · skip
    refine lv_iload_n hx hb dX4_quarrelPart_34 rfl (lv_at hl 5 rfl) ?_
    refine lv_iconst (v := 1) hx hb dX4_quarrelPart_35 (by decide) ?_
    refine lv_icmp_ne (tgt := 43) hx hb dX4_quarrelPart_36 (by decide) (fun c_2 => ?_) (fun c_2 => ?_)
    · skip
      refine lv_aload hx hb dX4_quarrelPart_43 (lv_at hl 1 rfl) ?_
      refine lv_iload_n hx hb dX4_quarrelPart_45 rfl (lv_at hl 5 rfl) ?_
      refine lv_iconst (v := 2) hx hb dX4_quarrelPart_46 (by decide) ?_
      refine lv_isub hx hb dX4_quarrelPart_47 ?_
      refine w_cV1 X hS (m_X0_setOf l G ad nA nK I J a (w - 2) (show a < nA by omega)) rfl rfl g152 g5 g310 g150 g151 hd_X0_setOf ⟨Nat.le_of_ble_eq_true rfl, Nat.le_of_ble_eq_true rfl⟩ (k_rec X hW 8 a (show a < nA by omega) rfl rfl) hW hl.1 rfl (Nat.le_of_ble_eq_true rfl) dX4_quarrelPart_48 (Nat.zero_le _) (Nat.zero_le _) (fun H locs hW hS => ?_)
      refine lv_aload hx hb dX4_quarrelPart_51 (lv_at hl 0 rfl) ?_
      refine lv_iload_n hx hb dX4_quarrelPart_53 rfl (lv_at hl 5 rfl) ?_
      refine lv_iconst (v := 2) hx hb dX4_quarrelPart_54 (by decide) ?_
      refine lv_isub hx hb dX4_quarrelPart_55 ?_
      refine w_cV1 X hS (m_X0_setOf l G ad nA nK I J b (w - 2) (show b < nA by omega)) rfl rfl g152 g5 g310 g150 g151 hd_X0_setOf ⟨Nat.le_of_ble_eq_true rfl, Nat.le_of_ble_eq_true rfl⟩ (k_rec X hW 8 b (show b < nA by omega) rfl rfl) hW hl.1 rfl (Nat.le_of_ble_eq_true rfl) dX4_quarrelPart_56 (Nat.zero_le _) (Nat.zero_le _) (fun H locs hW hS => ?_)
      refine lv_iand hx hb dX4_quarrelPart_59 ?_
      refine w_cS1 X hS (m_X4_least l G (Wd G ad nA nK I J) ((kSet I a (w - 2)) &&& (kSet I b (w - 2))) ) rfl rfl g435 g1 g433 g434 hd_X4_least ⟨Nat.le_of_ble_eq_true rfl, Nat.le_of_ble_eq_true rfl⟩ hW hl.1 rfl (Nat.le_of_ble_eq_true rfl) dX4_quarrelPart_60 (Nat.zero_le _) (Nat.zero_le _) (fun H locs hW hS => ?_)
      refine lv_topi (fun x3 ex3 => ?_)
      exact w_iret X hr hlk hS (by first | rfl | (simp [kQuarPart, c_1, c_2, ex3]; done) | (simp [kQuarPart, c_1, c_2, ex3]; rfl)) hW dX4_quarrelPart_63
    · skip
      refine lv_iload_n hx hb dX4_quarrelPart_39 rfl (lv_at hl 4 rfl) ?_
      refine lv_goto (tgt := 63) hx hb dX4_quarrelPart_40 (by decide) ?_
      exact w_iret X hr hlk hS (by first | rfl | (simp [kQuarPart, c_1, c_2]; done) | (subst c_2; simp [kQuarPart, c_1]; done) | (simp [kQuarPart, c_1, c_2]; rfl)) hW dX4_quarrelPart_63
  · skip
    refine lv_iload_n hx hb dX4_quarrelPart_30 rfl (lv_at hl 3 rfl) ?_
    refine lv_goto (tgt := 63) hx hb dX4_quarrelPart_31 (by decide) ?_
    exact w_iret X hr hlk hS (by first | rfl | (simp [kQuarPart, c_1]; done) | (subst c_1; simp [kQuarPart]; done) | (simp [kQuarPart, c_1]; rfl)) hW dX4_quarrelPart_63
set_option maxHeartbeats 4000000 in
set_option maxRecDepth 100000 in
theorem m_X4_likeSets (l : Launch) (G : k_G) (ad : Nat → Nat → Nat) (nA nK : Nat) (I : k_I) (J : k_J) (i : Nat) (j : Nat) (hi : i < nA) (hj : j < nA) : k_Met l yX4_likeSets cX4_likeSets 4 (some FieldType.int) { frames := 1, cells := 0, slots := 0, locals := 21 } G [.ref (ad 8 i), .ref (ad 8 j)] (Wd G ad nA nK I J) (some (.int (kLike I i j))) (Wd G ad nA nK I J) 0 0 := by
  refine k_body (by decide) (Nat.le_of_ble_eq_true rfl) ?_
  intro p e s m below meth c ls X hr hlk hnm hW hS hl
  have hx := X.1.1
  have hb := X.1.2.1
  have hG := X.1.2.2.2.2
  have hl : lv_has ls 4 [(0, .ref (ad 8 i)), (1, .ref (ad 8 j))] := hl
  refine lv_iconst (v := 0) hx hb dX4_likeSets_0 (by decide) ?_
  refine lv_istore_n (lv' := [(2, .int 0), (0, .ref (ad 8 i)), (1, .ref (ad 8 j))]) hx hb dX4_likeSets_1 rfl hl (by decide) rfl (fun ls hl => ?_)
  refine lv_iconst (v := 0) hx hb dX4_likeSets_2 (by decide) ?_
  refine lv_istore_n (lv' := [(3, .int 0), (2, .int 0), (0, .ref (ad 8 i)), (1, .ref (ad 8 j))]) hx hb dX4_likeSets_3 rfl hl (by decide) rfl (fun ls hl => ?_)
  have loop4 : ∀ (d a : Nat) (n : Int32), a + d = 3 → (kLoop (fun a n => if kSet I i (nI a) = kSet I j (nI a) then n + 1 else n) d a n = kLike I i j) → ∀ (H : Heap) (locs : List Loc), Wd G ad nA nK I J H → va_S (k_A G) s.heap H locs → ∀ ls : Array Slot, lv_has ls 4 [(3, .int (nI a)), (2, .int n), (0, .ref (ad 8 i)), (1, .ref (ad 8 j))] → W p l e { frames := 1, cells := 0, slots := 0, locals := 21 } s m ([.ref (ad 8 i), .ref (ad 8 j)] : List Value).toArray below meth c H locs 0 0 (MQ below (k_Q G (some (.int (kLike I i j))) (Wd G ad nA nK I J)) ([.ref (ad 8 i), .ref (ad 8 j)] : List Value).toArray s 0 0 (k_A G)) (F0 m 4 ls []) := by
    intro d
    induction d with
    | zero =>
      intro a n hi4 hz4  H locs hW hS ls hl
      refine lv_iload_n hx hb dX4_likeSets_4 rfl (lv_at hl 0 rfl) ?_
      refine lv_iconst (v := 3) hx hb dX4_likeSets_5 (by decide) ?_
      refine lv_icmp_ge (tgt := 31) hx hb dX4_likeSets_6 (by decide) (fun _ => ?_) (fun c_1 => absurd (nI_le (a := 3) (b := a) (by omega) (by omega)) c_1)
      refine lv_iload_n hx hb dX4_likeSets_31 rfl (lv_at hl 1 rfl) ?_
      exact w_iret X hr hlk hS (by first | exact hz4 | (rw [← hz4]; simp [kLoop]; done) | (simp [← hz4, kLoop]; done) | (rw [← hz4]; simp only [kLoop, eq_self, if_true, if_false, Bool.false_eq_true, decide_true, decide_false, Bool.not_true, Bool.not_false, Bool.false_or, Bool.true_or, Bool.and_true, Bool.true_and, Bool.false_and, Bool.and_false, Bool.or_true, Bool.or_false]; done) | (simp [kLoop]; done)) hW dX4_likeSets_32
    | succ d ih =>
      intro a n hi4 hz4  H locs hW hS ls hl
      have hlt4 : a < 3 := by omega
      have ih4 := ih
      refine lv_iload_n hx hb dX4_likeSets_4 rfl (lv_at hl 0 rfl) ?_
      refine lv_iconst (v := 3) hx hb dX4_likeSets_5 (by decide) ?_
      refine lv_icmp_ge (tgt := 31) hx hb dX4_likeSets_6 (by decide) (fun c_2 => absurd c_2 (nI_ge (a := a) (b := 3) (by omega) (by omega))) (fun _ => ?_)
      refine lv_aload_n hx hb dX4_likeSets_9 rfl (lv_at hl 2 rfl) ?_
      refine lv_iload_n hx hb dX4_likeSets_10 rfl (lv_at hl 0 rfl) ?_
      refine w_cV1 X hS (m_X0_setOf l G ad nA nK I J i (nI a) hi) rfl rfl g152 g5 g310 g150 g151 hd_X0_setOf ⟨Nat.le_of_ble_eq_true rfl, Nat.le_of_ble_eq_true rfl⟩ (k_rec X hW 8 i hi rfl rfl) hW hl.1 rfl (Nat.le_of_ble_eq_true rfl) dX4_likeSets_11 (Nat.zero_le _) (Nat.zero_le _) (fun H locs hW hS => ?_)
      refine lv_aload_n hx hb dX4_likeSets_14 rfl (lv_at hl 3 rfl) ?_
      refine lv_iload_n hx hb dX4_likeSets_15 rfl (lv_at hl 0 rfl) ?_
      refine w_cV1 X hS (m_X0_setOf l G ad nA nK I J j (nI a) hj) rfl rfl g152 g5 g310 g150 g151 hd_X0_setOf ⟨Nat.le_of_ble_eq_true rfl, Nat.le_of_ble_eq_true rfl⟩ (k_rec X hW 8 j hj rfl rfl) hW hl.1 rfl (Nat.le_of_ble_eq_true rfl) dX4_likeSets_16 (Nat.zero_le _) (Nat.zero_le _) (fun H locs hW hS => ?_)
      refine lv_icmp_ne (tgt := 25) hx hb dX4_likeSets_19 (by decide) (fun c_3 => ?_) (fun c_3 => ?_)
      · skip
        refine lv_iinc (v := nI (a + 1)) (lv' := [(3, .int (nI (a + 1))), (2, .int n), (0, .ref (ad 8 i)), (1, .ref (ad 8 j))]) hx hb dX4_likeSets_25 hl (k := 0) rfl (nI_1 a) (by decide) rfl (fun ls hl => ?_)
        refine lv_goto (tgt := 4) hx hb dX4_likeSets_28 (by decide) ?_
        exact ih4 (a + 1) n (by omega) (by first | exact hz4 | (rw [← hz4]; simp [kLoop, c_3]; done) | (simp [← hz4, kLoop, c_3]; done) | (rw [← hz4]; simp only [kLoop, c_3, eq_self, if_true, if_false, Bool.false_eq_true, decide_true, decide_false, Bool.not_true, Bool.not_false, Bool.false_or, Bool.true_or, Bool.and_true, Bool.true_and, Bool.false_and, Bool.and_false, Bool.or_true, Bool.or_false]; done)) _ _ hW hS ls (lv_sub hl [0, 1, 2, 3] rfl)
      · skip
        refine lv_iinc (v := n + 1) (lv' := [(2, .int (n + 1)), (3, .int (nI a)), (0, .ref (ad 8 i)), (1, .ref (ad 8 j))]) hx hb dX4_likeSets_22 hl (k := 1) rfl rfl (by decide) rfl (fun ls hl => ?_)
        refine lv_iinc (v := nI (a + 1)) (lv' := [(3, .int (nI (a + 1))), (2, .int (n + 1)), (0, .ref (ad 8 i)), (1, .ref (ad 8 j))]) hx hb dX4_likeSets_25 hl (k := 1) rfl (nI_1 a) (by decide) rfl (fun ls hl => ?_)
        refine lv_goto (tgt := 4) hx hb dX4_likeSets_28 (by decide) ?_
        exact ih4 (a + 1) (n + 1) (by omega) (by first | exact hz4 | (rw [← hz4]; simp [kLoop, c_3]; done) | (simp [← hz4, kLoop, c_3]; done) | (rw [← hz4]; simp only [kLoop, c_3, eq_self, if_true, if_false, Bool.false_eq_true, decide_true, decide_false, Bool.not_true, Bool.not_false, Bool.false_or, Bool.true_or, Bool.and_true, Bool.true_and, Bool.false_and, Bool.and_false, Bool.or_true, Bool.or_false]; done)) _ _ hW hS ls (lv_sub hl [0, 1, 2, 3] rfl)
  exact loop4 3 0 0 (by omega) rfl _ _ hW hS ls (lv_sub hl [0, 1, 2, 3] rfl)
set_option maxHeartbeats 4000000 in
set_option maxRecDepth 100000 in
theorem m_X4_isInside (l : Launch) (G : k_G) (ad : Nat → Nat → Nat) (nA nK : Nat) (I : k_I) (J : k_J) (i : Nat) (j : Nat) (hi : i < nA) (hj : j < nA) : k_Met l yX4_isInside cX4_isInside 3 (some FieldType.boolean) { frames := 1, cells := 0, slots := 0, locals := 21 } G [.ref (ad 8 i), .ref (ad 8 j)] (Wd G ad nA nK I J) (some (.int (k_b (kInside I i j)))) (Wd G ad nA nK I J) 0 0 := by
  refine k_body (by decide) (Nat.le_of_ble_eq_true rfl) ?_
  intro p e s m below meth c ls X hr hlk hnm hW hS hl
  have hx := X.1.1
  have hb := X.1.2.1
  have hG := X.1.2.2.2.2
  have hl : lv_has ls 3 [(0, .ref (ad 8 i)), (1, .ref (ad 8 j))] := hl
  refine lv_iconst (v := 0) hx hb dX4_isInside_0 (by decide) ?_
  refine lv_istore_n (lv' := [(2, .int 0), (0, .ref (ad 8 i)), (1, .ref (ad 8 j))]) hx hb dX4_isInside_1 rfl hl (by decide) rfl (fun ls hl => ?_)
  have loop2 : ∀ (d a : Nat), a + d = 3 → ((!kAny (fun a => !decide (kSet I i (nI a) &&& (kSet I j (nI a) ^^^ -1) = 0)) d a) = kInside I i j) → ∀ (H : Heap) (locs : List Loc), Wd G ad nA nK I J H → va_S (k_A G) s.heap H locs → ∀ ls : Array Slot, lv_has ls 3 [(2, .int (nI a)), (0, .ref (ad 8 i)), (1, .ref (ad 8 j))] → W p l e { frames := 1, cells := 0, slots := 0, locals := 21 } s m ([.ref (ad 8 i), .ref (ad 8 j)] : List Value).toArray below meth c H locs 0 0 (MQ below (k_Q G (some (.int (k_b (kInside I i j)))) (Wd G ad nA nK I J)) ([.ref (ad 8 i), .ref (ad 8 j)] : List Value).toArray s 0 0 (k_A G)) (F0 m 2 ls []) := by
    intro d
    induction d with
    | zero =>
      intro a hi2 hz2  H locs hW hS ls hl
      refine lv_iload_n hx hb dX4_isInside_2 rfl (lv_at hl 0 rfl) ?_
      refine lv_iconst (v := 3) hx hb dX4_isInside_3 (by decide) ?_
      refine lv_icmp_ge (tgt := 31) hx hb dX4_isInside_4 (by decide) (fun _ => ?_) (fun c_1 => absurd (nI_le (a := 3) (b := a) (by omega) (by omega)) c_1)
      refine lv_iconst (v := 1) hx hb dX4_isInside_31 (by decide) ?_
      exact w_zret X hr hlk hS (by first | exact hz2 | (rw [← hz2]; simp [kAny, k_b]; done) | (simp [← hz2, kAny, k_b]; done) | (rw [← hz2]; simp only [kAny, k_b, eq_self, if_true, if_false, Bool.false_eq_true, decide_true, decide_false, Bool.not_true, Bool.not_false, Bool.false_or, Bool.true_or, Bool.and_true, Bool.true_and, Bool.false_and, Bool.and_false, Bool.or_true, Bool.or_false]; done) | (simp [kAny, k_b]; done)) (k_b_n _) hW dX4_isInside_32
    | succ d ih =>
      intro a hi2 hz2  H locs hW hS ls hl
      have hlt2 : a < 3 := by omega
      have ih2 := ih
      refine lv_iload_n hx hb dX4_isInside_2 rfl (lv_at hl 0 rfl) ?_
      refine lv_iconst (v := 3) hx hb dX4_isInside_3 (by decide) ?_
      refine lv_icmp_ge (tgt := 31) hx hb dX4_isInside_4 (by decide) (fun c_2 => absurd c_2 (nI_ge (a := a) (b := 3) (by omega) (by omega))) (fun _ => ?_)
      refine lv_aload_n hx hb dX4_isInside_7 rfl (lv_at hl 1 rfl) ?_
      refine lv_iload_n hx hb dX4_isInside_8 rfl (lv_at hl 0 rfl) ?_
      refine w_cV1 X hS (m_X0_setOf l G ad nA nK I J i (nI a) hi) rfl rfl g152 g5 g310 g150 g151 hd_X0_setOf ⟨Nat.le_of_ble_eq_true rfl, Nat.le_of_ble_eq_true rfl⟩ (k_rec X hW 8 i hi rfl rfl) hW hl.1 rfl (Nat.le_of_ble_eq_true rfl) dX4_isInside_9 (Nat.zero_le _) (Nat.zero_le _) (fun H locs hW hS => ?_)
      refine lv_aload_n hx hb dX4_isInside_12 rfl (lv_at hl 2 rfl) ?_
      refine lv_iload_n hx hb dX4_isInside_13 rfl (lv_at hl 0 rfl) ?_
      refine w_cV1 X hS (m_X0_setOf l G ad nA nK I J j (nI a) hj) rfl rfl g152 g5 g310 g150 g151 hd_X0_setOf ⟨Nat.le_of_ble_eq_true rfl, Nat.le_of_ble_eq_true rfl⟩ (k_rec X hW 8 j hj rfl rfl) hW hl.1 rfl (Nat.le_of_ble_eq_true rfl) dX4_isInside_14 (Nat.zero_le _) (Nat.zero_le _) (fun H locs hW hS => ?_)
      refine lv_iconst (v := (-1)) hx hb dX4_isInside_17 (by decide) ?_
      refine lv_ixor hx hb dX4_isInside_18 ?_
      refine lv_iand hx hb dX4_isInside_19 ?_
      refine lv_if_eq (tgt := 25) hx hb dX4_isInside_20 (by decide) (fun c_3 => ?_) (fun c_3 => ?_)
      · skip
        refine lv_iinc (v := nI (a + 1)) (lv' := [(2, .int (nI (a + 1))), (0, .ref (ad 8 i)), (1, .ref (ad 8 j))]) hx hb dX4_isInside_25 hl (k := 0) rfl (nI_1 a) (by decide) rfl (fun ls hl => ?_)
        refine lv_goto (tgt := 2) hx hb dX4_isInside_28 (by decide) ?_
        exact ih2 (a + 1) (by omega) (by first | exact hz2 | (rw [← hz2]; simp [kAny, k_b, c_3]; done) | (simp [← hz2, kAny, k_b, c_3]; done) | (rw [← hz2]; simp only [kAny, k_b, c_3, eq_self, if_true, if_false, Bool.false_eq_true, decide_true, decide_false, Bool.not_true, Bool.not_false, Bool.false_or, Bool.true_or, Bool.and_true, Bool.true_and, Bool.false_and, Bool.and_false, Bool.or_true, Bool.or_false]; done)) _ _ hW hS ls (lv_sub hl [0, 1, 2] rfl)
      · skip
        refine lv_iconst (v := 0) hx hb dX4_isInside_23 (by decide) ?_
        exact w_zret X hr hlk hS (by first | exact hz2 | (rw [← hz2]; simp [kAny, k_b, c_3]; done) | (simp [← hz2, kAny, k_b, c_3]; done) | (rw [← hz2]; simp only [kAny, k_b, c_3, eq_self, if_true, if_false, Bool.false_eq_true, decide_true, decide_false, Bool.not_true, Bool.not_false, Bool.false_or, Bool.true_or, Bool.and_true, Bool.true_and, Bool.false_and, Bool.and_false, Bool.or_true, Bool.or_false]; done) | (simp [kAny, k_b, c_3]; done)) (k_b_n _) hW dX4_isInside_24
  exact loop2 3 0 (by omega) rfl _ _ hW hS ls (lv_sub hl [0, 1, 2] rfl)
set_option maxHeartbeats 4000000 in
set_option maxRecDepth 100000 in
theorem m_X4_mayMelt (l : Launch) (G : k_G) (ad : Nat → Nat → Nat) (nA nK : Nat) (I : k_I) (J : k_J) (i : Nat) (j : Nat) (hi : i < nA) (hj : j < nA) : k_Met l yX4_mayMelt cX4_mayMelt 2 (some FieldType.boolean) { frames := 2, cells := 0, slots := 0, locals := 44 } G [.ref (ad 8 i), .ref (ad 8 j)] (Wd G ad nA nK I J) (some (.int (k_b (kMay I i j)))) (Wd G ad nA nK I J) 0 0 := by
  refine k_body (by decide) (Nat.le_of_ble_eq_true rfl) ?_
  intro p e s m below meth c ls X hr hlk hnm hW hS hl
  have hx := X.1.1
  have hb := X.1.2.1
  have hG := X.1.2.2.2.2
  have hl : lv_has ls 2 [(0, .ref (ad 8 i)), (1, .ref (ad 8 j))] := hl
  refine lv_aload_n hx hb dX4_mayMelt_0 rfl (lv_at hl 0 rfl) ?_
  refine w_cV1 X hS (m_X0_kindNow l G ad nA nK I J i hi) rfl rfl g270 g5 g267 g268 g269 hd_X0_kindNow ⟨Nat.le_of_ble_eq_true rfl, Nat.le_of_ble_eq_true rfl⟩ (k_rec X hW 8 i hi rfl rfl) hW hl.1 rfl (Nat.le_of_ble_eq_true rfl) dX4_mayMelt_1 (Nat.zero_le _) (Nat.zero_le _) (fun H locs hW hS => ?_)
  refine lv_if_ne (tgt := 54) hx hb dX4_mayMelt_4 (by decide) (fun c_1 => ?_) (fun c_1 => ?_)
  · skip
    refine lv_iconst (v := 0) hx hb dX4_mayMelt_54 (by decide) ?_
    exact w_zret X hr hlk hS (by first | rfl | (simp [kMay, k_b, c_1]; done) | (simp [kMay, k_b, c_1]; rfl)) (k_b_n _) hW dX4_mayMelt_55
  · skip
    refine lv_aload_n hx hb dX4_mayMelt_7 rfl (lv_at hl 1 rfl) ?_
    refine w_cV1 X hS (m_X0_kindNow l G ad nA nK I J j hj) rfl rfl g270 g5 g267 g268 g269 hd_X0_kindNow ⟨Nat.le_of_ble_eq_true rfl, Nat.le_of_ble_eq_true rfl⟩ (k_rec X hW 8 j hj rfl rfl) hW hl.1 rfl (Nat.le_of_ble_eq_true rfl) dX4_mayMelt_8 (Nat.zero_le _) (Nat.zero_le _) (fun H locs hW hS => ?_)
    refine lv_if_ne (tgt := 54) hx hb dX4_mayMelt_11 (by decide) (fun c_2 => ?_) (fun c_2 => ?_)
    · skip
      refine lv_iconst (v := 0) hx hb dX4_mayMelt_54 (by decide) ?_
      exact w_zret X hr hlk hS (by first | rfl | (simp [kMay, k_b, c_1, c_2]; done) | (simp [kMay, k_b, c_1, c_2]; rfl)) (k_b_n _) hW dX4_mayMelt_55
    · skip
      refine lv_aload_n hx hb dX4_mayMelt_14 rfl (lv_at hl 0 rfl) ?_
      refine w_get X hW 8 i hi rfl rfl inG0 2 (by decide) g191 rfl dX4_mayMelt_15 ?_
      refine lv_aload_n hx hb dX4_mayMelt_18 rfl (lv_at hl 1 rfl) ?_
      refine w_get X hW 8 j hj rfl rfl inG0 2 (by decide) g191 rfl dX4_mayMelt_19 ?_
      refine lv_icmp_ne (tgt := 54) hx hb dX4_mayMelt_22 (by decide) (fun c_3 => ?_) (fun c_3 => ?_)
      · skip
        refine lv_iconst (v := 0) hx hb dX4_mayMelt_54 (by decide) ?_
        exact w_zret X hr hlk hS (by first | rfl | (simp [kMay, k_b, c_1, c_2, c_3]; done) | (simp [kMay, k_b, c_1, c_2, c_3]; rfl)) (k_b_n _) hW dX4_mayMelt_55
      · skip
        refine lv_aload_n hx hb dX4_mayMelt_25 rfl (lv_at hl 0 rfl) ?_
        refine lv_aload_n hx hb dX4_mayMelt_26 rfl (lv_at hl 1 rfl) ?_
        refine w_cS1 X hS (m_X4_likeSets l G ad nA nK I J i j hi hj) rfl rfl g309 g1 g307 g308 hd_X4_likeSets ⟨Nat.le_of_ble_eq_true rfl, Nat.le_of_ble_eq_true rfl⟩ hW hl.1 rfl (Nat.le_of_ble_eq_true rfl) dX4_mayMelt_27 (Nat.zero_le _) (Nat.zero_le _) (fun H locs hW hS => ?_)
        refine lv_iconst (v := 2) hx hb dX4_mayMelt_30 (by decide) ?_
        refine lv_icmp_ge (tgt := 50) hx hb dX4_mayMelt_31 (by decide) (fun c_4 => ?_) (fun c_4 => ?_)
        · skip
          refine lv_iconst (v := 1) hx hb dX4_mayMelt_50 (by decide) ?_
          refine lv_goto (tgt := 55) hx hb dX4_mayMelt_51 (by decide) ?_
          exact w_zret X hr hlk hS (by first | rfl | (simp [kMay, k_b, c_1, c_2, c_3, c_4]; done) | (simp [kMay, k_b, c_1, c_2, c_3, c_4]; rfl)) (k_b_n _) hW dX4_mayMelt_55
        · skip
          refine lv_aload_n hx hb dX4_mayMelt_34 rfl (lv_at hl 1 rfl) ?_
          refine lv_aload_n hx hb dX4_mayMelt_35 rfl (lv_at hl 0 rfl) ?_
          refine w_cS1 X hS (m_X4_isInside l G ad nA nK I J j i hj hi) rfl rfl g313 g1 g311 g312 hd_X4_isInside ⟨Nat.le_of_ble_eq_true rfl, Nat.le_of_ble_eq_true rfl⟩ hW hl.1 rfl (Nat.le_of_ble_eq_true rfl) dX4_mayMelt_36 (Nat.zero_le _) (Nat.zero_le _) (fun H locs hW hS => ?_)
          refine lb_if_ne (tgt := 50) hx hb dX4_mayMelt_39 (by decide) (fun c_5 => ?_) (fun c_5 => ?_)
          · skip
            refine lv_iconst (v := 1) hx hb dX4_mayMelt_50 (by decide) ?_
            refine lv_goto (tgt := 55) hx hb dX4_mayMelt_51 (by decide) ?_
            exact w_zret X hr hlk hS (by first | rfl | (simp [kMay, k_b, c_1, c_2, c_3, c_4, c_5]; done) | (simp [kMay, k_b, c_1, c_2, c_3, c_4, c_5]; rfl)) (k_b_n _) hW dX4_mayMelt_55
          · skip
            refine lv_aload_n hx hb dX4_mayMelt_42 rfl (lv_at hl 0 rfl) ?_
            refine lv_aload_n hx hb dX4_mayMelt_43 rfl (lv_at hl 1 rfl) ?_
            refine w_cS1 X hS (m_X4_isInside l G ad nA nK I J i j hi hj) rfl rfl g313 g1 g311 g312 hd_X4_isInside ⟨Nat.le_of_ble_eq_true rfl, Nat.le_of_ble_eq_true rfl⟩ hW hl.1 rfl (Nat.le_of_ble_eq_true rfl) dX4_mayMelt_44 (Nat.zero_le _) (Nat.zero_le _) (fun H locs hW hS => ?_)
            refine lb_if_eq (tgt := 54) hx hb dX4_mayMelt_47 (by decide) (fun c_6 => ?_) (fun c_6 => ?_)
            · skip
              refine lv_iconst (v := 0) hx hb dX4_mayMelt_54 (by decide) ?_
              exact w_zret X hr hlk hS (by first | rfl | (simp [kMay, k_b, c_1, c_2, c_3, c_4, c_5, c_6]; done) | (simp [kMay, k_b, c_1, c_2, c_3, c_4, c_5, c_6]; rfl)) (k_b_n _) hW dX4_mayMelt_55
            · skip
              refine lv_iconst (v := 1) hx hb dX4_mayMelt_50 (by decide) ?_
              refine lv_goto (tgt := 55) hx hb dX4_mayMelt_51 (by decide) ?_
              exact w_zret X hr hlk hS (by first | rfl | (simp [kMay, k_b, c_1, c_2, c_3, c_4, c_5, c_6]; done) | (simp [kMay, k_b, c_1, c_2, c_3, c_4, c_5, c_6]; rfl)) (k_b_n _) hW dX4_mayMelt_55
set_option maxHeartbeats 4000000 in
set_option maxRecDepth 100000 in
theorem m_X4_areAllPlain (l : Launch) (G : k_G) (ad : Nat → Nat → Nat) (nA nK : Nat) (I : k_I) (J : k_J) (x : Int32) (hs : k_S nA nK I) : k_Met l yX4_areAllPlain cX4_areAllPlain 4 (some FieldType.boolean) { frames := 2, cells := 0, slots := 0, locals := 40 } G [.ref (ad 0 0), .int x] (Wd G ad nA nK I J) (some (.int (k_b (kAllPlain nA I x)))) (Wd G ad nA nK I J) 0 0 := by
  refine k_body (by decide) (Nat.le_of_ble_eq_true rfl) ?_
  intro p e s m below meth c ls X hr hlk hnm hW hS hl
  have hx := X.1.1
  have hb := X.1.2.1
  have hG := X.1.2.2.2.2
  have hA24 := hs.2.2.1
  have hK30 := hs.2.2.2.1
  have hl : lv_has ls 4 [(0, .ref (ad 0 0)), (1, .int x)] := hl
  refine lv_iconst (v := 0) hx hb dX4_areAllPlain_0 (by decide) ?_
  refine lv_istore_n (lv' := [(2, .int 0), (0, .ref (ad 0 0)), (1, .int x)]) hx hb dX4_areAllPlain_1 rfl hl (by decide) rfl (fun ls hl => ?_)
  have loop2 : ∀ (d a : Nat), a + d = nA → ((!kAny (fun a => !decide (x &&& kBit (nI a) = 0) && !decide (kKind I a = 0)) d a) = kAllPlain nA I x) → ∀ (H : Heap) (locs : List Loc), Wd G ad nA nK I J H → va_S (k_A G) s.heap H locs → ∀ ls : Array Slot, lv_has ls 4 [(2, .int (nI a)), (0, .ref (ad 0 0)), (1, .int x)] → W p l e { frames := 2, cells := 0, slots := 0, locals := 40 } s m ([.ref (ad 0 0), .int x] : List Value).toArray below meth c H locs 0 0 (MQ below (k_Q G (some (.int (k_b (kAllPlain nA I x)))) (Wd G ad nA nK I J)) ([.ref (ad 0 0), .int x] : List Value).toArray s 0 0 (k_A G)) (F0 m 2 ls []) := by
    intro d
    induction d with
    | zero =>
      intro a hi2 hz2  H locs hW hS ls hl
      refine lv_iload_n hx hb dX4_areAllPlain_2 rfl (lv_at hl 0 rfl) ?_
      refine lv_aload_n hx hb dX4_areAllPlain_3 rfl (lv_at hl 1 rfl) ?_
      refine w_get (v := .int (nI nA)) X hW 0 0 Nat.zero_lt_one rfl rfl inG4 4 (by decide) g53 (congrArg (fun z => some (Value.int z)) hs.1) dX4_areAllPlain_4 ?_
      refine lv_icmp_ge (tgt := 44) hx hb dX4_areAllPlain_7 (by decide) (fun _ => ?_) (fun c_1 => absurd (nI_le (a := nA) (b := a) (by omega) (by omega)) c_1)
      refine lv_iconst (v := 1) hx hb dX4_areAllPlain_44 (by decide) ?_
      exact w_zret X hr hlk hS (by first | exact hz2 | (rw [← hz2]; simp [kAny, k_b]; done) | (simp [← hz2, kAny, k_b]; done) | (rw [← hz2]; simp only [kAny, k_b, eq_self, if_true, if_false, Bool.false_eq_true, decide_true, decide_false, Bool.not_true, Bool.not_false, Bool.false_or, Bool.true_or, Bool.and_true, Bool.true_and, Bool.false_and, Bool.and_false, Bool.or_true, Bool.or_false]; done) | (simp [kAny, k_b]; done)) (k_b_n _) hW dX4_areAllPlain_45
    | succ d ih =>
      intro a hi2 hz2  H locs hW hS ls hl
      have hlt2 : a < nA := by omega
      have ih2 := ih
      refine lv_iload_n hx hb dX4_areAllPlain_2 rfl (lv_at hl 0 rfl) ?_
      refine lv_aload_n hx hb dX4_areAllPlain_3 rfl (lv_at hl 1 rfl) ?_
      refine w_get (v := .int (nI nA)) X hW 0 0 Nat.zero_lt_one rfl rfl inG4 4 (by decide) g53 (congrArg (fun z => some (Value.int z)) hs.1) dX4_areAllPlain_4 ?_
      refine lv_icmp_ge (tgt := 44) hx hb dX4_areAllPlain_7 (by decide) (fun c_2 => absurd c_2 (nI_ge (a := a) (b := nA) (by omega) (by omega))) (fun _ => ?_)
      refine lv_aload_n hx hb dX4_areAllPlain_10 rfl (lv_at hl 1 rfl) ?_
      refine lv_iload_n hx hb dX4_areAllPlain_11 rfl (lv_at hl 0 rfl) ?_
      refine w_cV1 X hS (m_X4_answerAt l G ad nA nK I J (nI a) hs) rfl rfl g99 g1 g96 g98 p1 hd_X4_answerAt ⟨Nat.le_of_ble_eq_true rfl, Nat.le_of_ble_eq_true rfl⟩ (k_rec X hW 0 0 Nat.zero_lt_one rfl rfl) hW hl.1 rfl (Nat.le_of_ble_eq_true rfl) dX4_areAllPlain_12 (Nat.zero_le _) (Nat.zero_le _) (fun H locs hW hS => ?_)
      rw [kAns_lt (n := nA) (a := a) (by omega) (by omega)]
      refine lv_astore_n (lv' := [(3, .ref (ad 8 a)), (2, .int (nI a)), (0, .ref (ad 0 0)), (1, .int x)]) hx hb dX4_areAllPlain_15 rfl hl (by decide) rfl (fun ls hl => ?_)
      refine lv_aload_n hx hb dX4_areAllPlain_16 rfl (lv_at hl 0 rfl) ?_
      refine lv_ifnull hx hb dX4_areAllPlain_17 ?_
      refine lv_iload_n hx hb dX4_areAllPlain_20 rfl (lv_at hl 3 rfl) ?_
      refine lv_iload_n hx hb dX4_areAllPlain_21 rfl (lv_at hl 1 rfl) ?_
      refine w_cS1 X hS (m_X4_bit l G (Wd G ad nA nK I J) (nI a) ) rfl rfl g110 g1 g131 g109 hd_X4_bit ⟨Nat.le_of_ble_eq_true rfl, Nat.le_of_ble_eq_true rfl⟩ hW hl.1 rfl (Nat.le_of_ble_eq_true rfl) dX4_areAllPlain_22 (Nat.zero_le _) (Nat.zero_le _) (fun H locs hW hS => ?_)
      refine lv_iand hx hb dX4_areAllPlain_25 ?_
      refine lv_if_eq (tgt := 38) hx hb dX4_areAllPlain_26 (by decide) (fun c_3 => ?_) (fun c_3 => ?_)
      · skip
        refine lv_iinc (v := nI (a + 1)) (lv' := [(2, .int (nI (a + 1))), (3, .ref (ad 8 a)), (0, .ref (ad 0 0)), (1, .int x)]) hx hb dX4_areAllPlain_38 hl (k := 1) rfl (nI_1 a) (by decide) rfl (fun ls hl => ?_)
        refine lv_goto (tgt := 2) hx hb dX4_areAllPlain_41 (by decide) ?_
        exact ih2 (a + 1) (by omega) (by first | exact hz2 | (rw [← hz2]; simp [kAny, k_b, c_3]; done) | (simp [← hz2, kAny, k_b, c_3]; done) | (rw [← hz2]; simp only [kAny, k_b, c_3, eq_self, if_true, if_false, Bool.false_eq_true, decide_true, decide_false, Bool.not_true, Bool.not_false, Bool.false_or, Bool.true_or, Bool.and_true, Bool.true_and, Bool.false_and, Bool.and_false, Bool.or_true, Bool.or_false]; done)) _ _ hW hS ls (lv_sub hl [0, 2, 3] rfl)
      · skip
        refine lv_aload_n hx hb dX4_areAllPlain_29 rfl (lv_at hl 0 rfl) ?_
        refine w_cV1 X hS (m_X0_kindNow l G ad nA nK I J a (show a < nA by omega)) rfl rfl g270 g5 g267 g268 g269 hd_X0_kindNow ⟨Nat.le_of_ble_eq_true rfl, Nat.le_of_ble_eq_true rfl⟩ (k_rec X hW 8 a (show a < nA by omega) rfl rfl) hW hl.1 rfl (Nat.le_of_ble_eq_true rfl) dX4_areAllPlain_30 (Nat.zero_le _) (Nat.zero_le _) (fun H locs hW hS => ?_)
        refine lv_if_eq (tgt := 38) hx hb dX4_areAllPlain_33 (by decide) (fun c_4 => ?_) (fun c_4 => ?_)
        · skip
          refine lv_iinc (v := nI (a + 1)) (lv' := [(2, .int (nI (a + 1))), (3, .ref (ad 8 a)), (0, .ref (ad 0 0)), (1, .int x)]) hx hb dX4_areAllPlain_38 hl (k := 1) rfl (nI_1 a) (by decide) rfl (fun ls hl => ?_)
          refine lv_goto (tgt := 2) hx hb dX4_areAllPlain_41 (by decide) ?_
          exact ih2 (a + 1) (by omega) (by first | exact hz2 | (rw [← hz2]; simp [kAny, k_b, c_3, c_4]; done) | (simp [← hz2, kAny, k_b, c_3, c_4]; done) | (rw [← hz2]; simp only [kAny, k_b, c_3, c_4, eq_self, if_true, if_false, Bool.false_eq_true, decide_true, decide_false, Bool.not_true, Bool.not_false, Bool.false_or, Bool.true_or, Bool.and_true, Bool.true_and, Bool.false_and, Bool.and_false, Bool.or_true, Bool.or_false]; done)) _ _ hW hS ls (lv_sub hl [0, 2, 3] rfl)
        · skip
          refine lv_iconst (v := 0) hx hb dX4_areAllPlain_36 (by decide) ?_
          exact w_zret X hr hlk hS (by first | exact hz2 | (rw [← hz2]; simp [kAny, k_b, c_3, c_4]; done) | (simp [← hz2, kAny, k_b, c_3, c_4]; done) | (rw [← hz2]; simp only [kAny, k_b, c_3, c_4, eq_self, if_true, if_false, Bool.false_eq_true, decide_true, decide_false, Bool.not_true, Bool.not_false, Bool.false_or, Bool.true_or, Bool.and_true, Bool.true_and, Bool.false_and, Bool.and_false, Bool.or_true, Bool.or_false]; done) | (simp [kAny, k_b, c_3, c_4]; done)) (k_b_n _) hW dX4_areAllPlain_37
  exact loop2 nA 0 (by omega) rfl _ _ hW hS ls (lv_sub hl [0, 1, 2] rfl)
