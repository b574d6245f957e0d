set_option maxHeartbeats 1200000 in
set_option maxRecDepth 100000 in
theorem m_X5_fresh (l : Launch) (G : k_G) (ad : Nat → Nat → Nat) (nA nK : Nat) (mA mK : Nat) (E : Nat → Nat) (I : k_I) (J : k_J) (k9 : Int32) (hs : m_S mA mK E I) (h24 : mA < 24) : k_Met l yX5_fresh cX5_fresh 4 (some FieldType.int) { frames := 0, cells := 0, slots := 0, locals := 0 } G [.ref (ad 13 0), .int k9] (Wd G ad nA nK I J) (some (.int (nI (mA)))) (Wd G ad nA nK (mFr mA k9 I) (mFrJ mA J)) 0 0 := by
  refine k_body (by decide) (Nat.le_of_ble_eq_true rfl) ?_
  intro p e s m below meth c ls X hr hlk hnm hW hS hl
  have hx := X.1.1
  have hb := X.1.2.1
  have hG := X.1.2.2.2.2
  have hA24 := hs.2.2.1
  have hK30 := hs.2.2.2.1
  have hl : lv_has ls 4 [(0, .ref (ad 13 0)), (1, .int k9)] := hl
  refine lv_aload_n hx hb dX5_fresh_0 rfl (lv_at hl 0 rfl) ?_
  refine w_get (v := .int (nI mA)) X hW 13 0 Nat.zero_lt_one rfl rfl inG5 6 (by decide) g504 (congrArg (fun z => some (Value.int z)) hs.1) dX5_fresh_1 ?_
  refine lv_istore_n (lv' := [(2, .int (nI mA)), (0, .ref (ad 13 0)), (1, .int k9)]) hx hb dX5_fresh_4 rfl hl (by decide) rfl (fun ls hl => ?_)
  refine lv_aload_n hx hb dX5_fresh_5 rfl (lv_at hl 1 rfl) ?_
  refine w_get X hW 13 0 Nat.zero_lt_one rfl rfl inG5 7 (by decide) g505 rfl dX5_fresh_6 ?_
  refine lv_iload_n hx hb dX5_fresh_9 rfl (lv_at hl 0 rfl) ?_
  refine lv_iload_n hx hb dX5_fresh_10 rfl (lv_at hl 2 rfl) ?_
  refine w_iastN (i := mA) X hW hS 27 0 Nat.zero_lt_one rfl (by omega) rfl dX5_fresh_11 (fun H locs hW hS => ?_)
  obtain ⟨I1, eI1⟩ : ∃ z, z = k_up I 27 0 (upd (I 27 0) mA k9) := ⟨_, rfl⟩
  rw [← eI1] at hW
  have hs1 : m_S mA mK E I1 := by rw [eI1]; exact hs.up 27 _ _ (by decide)
  refine lv_aload_n hx hb dX5_fresh_12 rfl (lv_at hl 1 rfl) ?_
  refine w_get X hW 13 0 Nat.zero_lt_one rfl rfl inG5 8 (by decide) g506 rfl dX5_fresh_13 ?_
  refine lv_iload_n hx hb dX5_fresh_16 rfl (lv_at hl 0 rfl) ?_
  refine lv_iconst (v := (-1)) hx hb dX5_fresh_17 (by decide) ?_
  refine w_iastN (i := mA) X hW hS 28 0 Nat.zero_lt_one rfl (by omega) rfl dX5_fresh_18 (fun H locs hW hS => ?_)
  obtain ⟨I2, eI2⟩ : ∃ z, z = k_up I1 28 0 (upd (I1 28 0) mA (-1)) := ⟨_, rfl⟩
  rw [← eI2] at hW
  refine lv_aload_n hx hb dX5_fresh_19 rfl (lv_at hl 1 rfl) ?_
  refine w_get X hW 13 0 Nat.zero_lt_one rfl rfl inG5 9 (by decide) g507 rfl dX5_fresh_20 ?_
  refine lv_iload_n hx hb dX5_fresh_23 rfl (lv_at hl 0 rfl) ?_
  refine lv_lconst (v := 0) hx hb dX5_fresh_24 (by decide) ?_
  refine w_lastN (i := mA) X hW hS 29 0 Nat.zero_lt_one rfl (by omega) rfl dX5_fresh_25 (fun H locs hW hS => ?_)
  obtain ⟨J3, eJ3⟩ : ∃ z, z = k_up J 29 0 (vp_updL (J 29 0) mA 0) := ⟨_, rfl⟩
  rw [← eJ3] at hW
  refine lv_aload_n hx hb dX5_fresh_26 rfl (lv_at hl 1 rfl) ?_
  refine w_get X hW 13 0 Nat.zero_lt_one rfl rfl inG5 10 (by decide) g508 rfl dX5_fresh_27 ?_
  refine lv_iload_n hx hb dX5_fresh_30 rfl (lv_at hl 0 rfl) ?_
  refine lv_iconst (v := (-1)) hx hb dX5_fresh_31 (by decide) ?_
  refine w_iastN (i := mA) X hW hS 30 0 Nat.zero_lt_one rfl (by omega) rfl dX5_fresh_32 (fun H locs hW hS => ?_)
  obtain ⟨I4, eI4⟩ : ∃ z, z = k_up I2 30 0 (upd (I2 30 0) mA (-1)) := ⟨_, rfl⟩
  rw [← eI4] at hW
  refine lv_aload_n hx hb dX5_fresh_33 rfl (lv_at hl 1 rfl) ?_
  refine w_get X hW 13 0 Nat.zero_lt_one rfl rfl inG5 12 (by decide) g510 rfl dX5_fresh_34 ?_
  refine lv_iload_n hx hb dX5_fresh_37 rfl (lv_at hl 0 rfl) ?_
  refine lv_iconst (v := 0) hx hb dX5_fresh_38 (by decide) ?_
  refine w_iastN (i := mA) X hW hS 32 0 Nat.zero_lt_one rfl (by omega) rfl dX5_fresh_39 (fun H locs hW hS => ?_)
  obtain ⟨I5, eI5⟩ : ∃ z, z = k_up I4 32 0 (upd (I4 32 0) mA 0) := ⟨_, rfl⟩
  rw [← eI5] at hW
  refine lv_aload_n hx hb dX5_fresh_40 rfl (lv_at hl 1 rfl) ?_
  refine w_get X hW 13 0 Nat.zero_lt_one rfl rfl inG5 13 (by decide) g511 rfl dX5_fresh_41 ?_
  refine lv_iload_n hx hb dX5_fresh_44 rfl (lv_at hl 0 rfl) ?_
  refine lv_aload_n hx hb dX5_fresh_45 rfl (lv_at hl 1 rfl) ?_
  refine w_get X hW 13 0 Nat.zero_lt_one rfl rfl inG5 3 (by decide) g501 rfl dX5_fresh_46 ?_
  refine w_iastN (i := mA) X hW hS 33 0 Nat.zero_lt_one rfl (by omega) rfl dX5_fresh_49 (fun H locs hW hS => ?_)
  obtain ⟨I6, eI6⟩ : ∃ z, z = k_up I5 33 0 (upd (I5 33 0) mA (I5 13 0 3)) := ⟨_, rfl⟩
  rw [← eI6] at hW
  refine lv_aload_n hx hb dX5_fresh_50 rfl (lv_at hl 1 rfl) ?_
  refine w_get X hW 13 0 Nat.zero_lt_one rfl rfl inG5 14 (by decide) g512 rfl dX5_fresh_51 ?_
  refine lv_iload_n hx hb dX5_fresh_54 rfl (lv_at hl 0 rfl) ?_
  refine lv_iconst (v := 0) hx hb dX5_fresh_55 (by decide) ?_
  refine w_iastN (i := mA) X hW hS 34 0 Nat.zero_lt_one rfl (by omega) rfl dX5_fresh_56 (fun H locs hW hS => ?_)
  obtain ⟨I7, eI7⟩ : ∃ z, z = k_up I6 34 0 (upd (I6 34 0) mA 0) := ⟨_, rfl⟩
  rw [← eI7] at hW
  refine lv_iconst (v := 0) hx hb dX5_fresh_57 (by decide) ?_
  refine lv_istore_n (lv' := [(3, .int 0), (2, .int (nI mA)), (0, .ref (ad 13 0)), (1, .int k9)]) hx hb dX5_fresh_58 rfl hl (by decide) rfl (fun ls hl => ?_)
  have loop59 : ∀ (d k : Nat) (m1 : k_I), k + d = 4 → (kLoop (fun k I => mw 35 (4 * mA + k) (-1) I) d k m1 = mFr4 mA I7) → ∀ (H : Heap) (locs : List Loc), Wd G ad nA nK m1 J3 H → va_S (k_A G) s.heap H locs → ∀ ls : Array Slot, lv_has ls 4 [(3, .int (nI k)), (2, .int (nI mA)), (0, .ref (ad 13 0)), (1, .int k9)] → W p l e { frames := 0, cells := 0, slots := 0, locals := 0 } s m ([.ref (ad 13 0), .int k9] : List Value).toArray below meth c H locs 0 0 (MQ below (k_Q G (some (.int (nI (mA)))) (Wd G ad nA nK (mFr mA k9 I) (mFrJ mA J))) ([.ref (ad 13 0), .int k9] : List Value).toArray s 0 0 (k_A G)) (F0 m 59 ls []) := by
    intro d
    induction d with
    | zero =>
      intro k m1 hi59 hz59  H locs hW hS ls hl
      have eIm1 : m1 = mFr4 mA I7 := hz59
      refine lv_iload_n hx hb dX5_fresh_59 rfl (lv_at hl 0 rfl) ?_
      refine lv_iconst (v := 4) hx hb dX5_fresh_60 (by decide) ?_
      refine lv_icmp_ge (tgt := 81) hx hb dX5_fresh_61 (by decide) (fun _ => ?_) (fun c_8 => absurd (nI_le (a := 4) (b := k) (by omega) (by omega)) c_8)
      refine lv_aload_n hx hb dX5_fresh_81 rfl (lv_at hl 2 rfl) ?_
      refine lv_dup hx hb dX5_fresh_82 rfl ?_
      refine w_get X hW 13 0 Nat.zero_lt_one rfl rfl inG5 6 (by decide) g504 rfl dX5_fresh_83 ?_
      refine lv_iconst (v := 1) hx hb dX5_fresh_86 (by decide) ?_
      refine lv_iadd hx hb dX5_fresh_87 ?_
      refine w_puti X hW hS 13 0 Nat.zero_lt_one rfl rfl inG5 tyX5 tyX5_ok nmX5 6 (by decide) g504 rfl rfl rfl (Nat.le_of_ble_eq_true rfl) rfl dX5_fresh_88 (fun H locs hW hS => ?_)
      obtain ⟨I9, eI9⟩ : ∃ z, z = k_up m1 13 0 (upd (m1 13 0) 6 ((m1 13 0 6) + 1)) := ⟨_, rfl⟩
      rw [← eI9] at hW
      refine lv_iload_n hx hb dX5_fresh_91 rfl (lv_at hl 1 rfl) ?_
      exact w_iret X hr hlk hS rfl (hW.to (by first | rfl | (subst eI9 eIm1 eI7 eI6 eI5 eI4 eJ3 eI2 eI1; simp []; done) | (subst eI9 eIm1 eI7 eI6 eI5 eI4 eJ3 eI2 eI1; rfl) | (subst eI9 eIm1 eI7 eI6 eI5 eI4 eJ3 eI2 eI1; simp []; done) | (subst eI9 eIm1 eI7 eI6 eI5 eI4 eJ3 eI2 eI1; simp []; rfl) | (simp [eI1, eI2, eJ3, eI4, eI5, eI6, eI7, eIm1, eI9]; done)) (by first | rfl | (subst eI9 eIm1 eI7 eI6 eI5 eI4 eJ3 eI2 eI1; simp []; done) | (subst eI9 eIm1 eI7 eI6 eI5 eI4 eJ3 eI2 eI1; rfl) | (subst eI9 eIm1 eI7 eI6 eI5 eI4 eJ3 eI2 eI1; simp []; done) | (subst eI9 eIm1 eI7 eI6 eI5 eI4 eJ3 eI2 eI1; simp []; rfl) | (simp [eI1, eI2, eJ3, eI4, eI5, eI6, eI7, eIm1, eI9]; done))) dX5_fresh_92
    | succ d ih =>
      intro k m1 hi59 hz59  H locs hW hS ls hl
      have hlt59 : k < 4 := by omega
      have ih59 := ih
      refine lv_iload_n hx hb dX5_fresh_59 rfl (lv_at hl 0 rfl) ?_
      refine lv_iconst (v := 4) hx hb dX5_fresh_60 (by decide) ?_
      refine lv_icmp_ge (tgt := 81) hx hb dX5_fresh_61 (by decide) (fun c_10 => absurd c_10 (nI_ge (a := k) (b := 4) (by omega) (by omega))) (fun _ => ?_)
      refine lv_aload_n hx hb dX5_fresh_64 rfl (lv_at hl 2 rfl) ?_
      refine w_get X hW 13 0 Nat.zero_lt_one rfl rfl inG5 15 (by decide) g513 rfl dX5_fresh_65 ?_
      refine lv_iconst (v := 4) hx hb dX5_fresh_68 (by decide) ?_
      refine lv_iload_n hx hb dX5_fresh_69 rfl (lv_at hl 1 rfl) ?_
      refine lw_imulN (a := 4) (b := mA) hx hb dX5_fresh_70 ?_
      refine lv_iload_n hx hb dX5_fresh_71 rfl (lv_at hl 0 rfl) ?_
      refine lw_iaddN (a := 4 * mA) (b := k) hx hb dX5_fresh_72 ?_
      refine lv_iconst (v := (-1)) hx hb dX5_fresh_73 (by decide) ?_
      refine w_iastN (i := 4 * mA + k) X hW hS 35 0 Nat.zero_lt_one rfl (by omega) rfl dX5_fresh_74 (fun H locs hW hS => ?_)
      obtain ⟨I11, eI11⟩ : ∃ z, z = k_up m1 35 0 (upd (m1 35 0) (4 * mA + k) (-1)) := ⟨_, rfl⟩
      rw [← eI11] at hW
      refine lv_iinc (v := nI (k + 1)) (lv' := [(3, .int (nI (k + 1))), (2, .int (nI mA)), (0, .ref (ad 13 0)), (1, .int k9)]) hx hb dX5_fresh_75 hl (k := 0) rfl (nI_1 k) (by decide) rfl (fun ls hl => ?_)
      refine lv_goto (tgt := 59) hx hb dX5_fresh_78 (by decide) ?_
      exact ih59 (k + 1) I11 (by omega) (by subst eI11; first | exact hz59 | (rw [← hz59]; simp [kLoop, mw]; done) | (rw [← hz59]; simp [kLoop, mw]; rfl)) _ _ hW hS ls (lv_sub hl [0, 1, 2, 3] rfl)
  exact loop59 4 0 I7 (by omega) rfl _ _ hW hS ls (lv_sub hl [0, 1, 2, 3] rfl)
set_option maxHeartbeats 1200000 in
set_option maxRecDepth 100000 in
theorem m_X5_answer (l : Launch) (G : k_G) (ad : Nat → Nat → Nat) (nA nK : Nat) (mA mK : Nat) (E : Nat → Nat) (I : k_I) (J : k_J) (x0 : Int64) (st : Int32) (x1 : Int32) (y1 : Int32) (z1 : Int32) (hs : m_S mA mK E I) : k_Met l yX5_answer cX5_answer 8 (some FieldType.int) { frames := 1, cells := 0, slots := 0, locals := 25 } G [.ref (ad 13 0), .long (x0), .int st, .int x1, .int y1, .int z1] (Wd G ad nA nK I J) (some (.int ((mcAnswer mA x0 st x1 y1 z1 (I, J)).1))) (Wd G ad nA nK ((mcAnswer mA x0 st x1 y1 z1 (I, J)).2.1) ((mcAnswer mA x0 st x1 y1 z1 (I, J)).2.2)) 0 0 := by
  refine k_body (by decide) (Nat.le_of_ble_eq_true rfl) ?_
  intro p e s m below meth c ls X hr hlk hnm hW hS hl
  have hx := X.1.1
  have hb := X.1.2.1
  have hG := X.1.2.2.2.2
  have hA24 := hs.2.2.1
  have hK30 := hs.2.2.2.1
  have hl : lv_has ls 8 [(0, .ref (ad 13 0)), (1, .long (x0)), (3, .int st), (4, .int x1), (5, .int y1), (6, .int z1)] := hl
  refine lv_lload_n hx hb dX5_answer_0 rfl (lv_at hl 1 rfl) ?_
  refine lv_lconst (v := 0) hx hb dX5_answer_1 (by decide) ?_
  refine lv_ldc2 hx hb X.1.2.2.2.1 (hG _ g599) dX5_answer_2 ?_
  refine w_cS1 X hS (m_X5_in l G (Wd G ad nA nK I J) x0 0 1099511627775 ) rfl rfl g583 g4 g581 g582 hd_X5_in ⟨Nat.le_of_ble_eq_true rfl, Nat.le_of_ble_eq_true rfl⟩ hW hl.1 rfl (Nat.le_of_ble_eq_true rfl) dX5_answer_5 (Nat.zero_le _) (Nat.zero_le _) (fun H locs hW hS => ?_)
  refine lb_if_eq (tgt := 62) hx hb dX5_answer_8 (by decide) (fun c_1 => ?_) (fun c_1 => ?_)
  · skip
    refine lv_sipush (v := (-1002)) hx hb dX5_answer_62 (by decide) ?_
    exact w_iret X hr hlk hS (by first | rfl | (simp [mcAnswer, mAnI, mAnJ, mw, mwJ, c_1]; done) | (simp [mcAnswer, mAnI, mAnJ, mw, mwJ, c_1]; rfl)) (hW.to (by first | rfl | (simp [mcAnswer, mAnI, mAnJ, mw, mwJ, c_1]; done)) (by first | rfl | (simp [mcAnswer, mAnI, mAnJ, mw, mwJ, c_1]; done))) dX5_answer_65
  · skip
    refine lv_iload_n hx hb dX5_answer_11 rfl (lv_at hl 2 rfl) ?_
    refine lv_i2l (v := Int32.toInt64 st) hx hb dX5_answer_12 rfl ?_
    refine lv_lconst (v := 0) hx hb dX5_answer_13 (by decide) ?_
    refine lv_ldc2 hx hb X.1.2.2.2.1 (hG _ g600) dX5_answer_14 ?_
    refine w_cS1 X hS (m_X5_in l G (Wd G ad nA nK I J) (Int32.toInt64 st) 0 9999 ) rfl rfl g583 g4 g581 g582 hd_X5_in ⟨Nat.le_of_ble_eq_true rfl, Nat.le_of_ble_eq_true rfl⟩ hW hl.1 rfl (Nat.le_of_ble_eq_true rfl) dX5_answer_17 (Nat.zero_le _) (Nat.zero_le _) (fun H locs hW hS => ?_)
    refine lb_if_eq (tgt := 62) hx hb dX5_answer_20 (by decide) (fun c_2 => ?_) (fun c_2 => ?_)
    · skip
      refine lv_sipush (v := (-1002)) hx hb dX5_answer_62 (by decide) ?_
      exact w_iret X hr hlk hS (by first | rfl | (simp [mcAnswer, mAnI, mAnJ, mw, mwJ, c_1, c_2]; done) | (simp [mcAnswer, mAnI, mAnJ, mw, mwJ, c_1, c_2]; rfl)) (hW.to (by first | rfl | (simp [mcAnswer, mAnI, mAnJ, mw, mwJ, c_1, c_2]; done)) (by first | rfl | (simp [mcAnswer, mAnI, mAnJ, mw, mwJ, c_1, c_2]; done))) dX5_answer_65
    · skip
      refine lv_iload hx hb dX5_answer_23 (lv_at hl 3 rfl) ?_
      refine lv_i2l (v := Int32.toInt64 x1) hx hb dX5_answer_25 rfl ?_
      refine lv_lconst (v := 1) hx hb dX5_answer_26 (by decide) ?_
      refine lv_ldc2 hx hb X.1.2.2.2.1 (hG _ g601) dX5_answer_27 ?_
      refine w_cS1 X hS (m_X5_in l G (Wd G ad nA nK I J) (Int32.toInt64 x1) 1 255 ) rfl rfl g583 g4 g581 g582 hd_X5_in ⟨Nat.le_of_ble_eq_true rfl, Nat.le_of_ble_eq_true rfl⟩ hW hl.1 rfl (Nat.le_of_ble_eq_true rfl) dX5_answer_30 (Nat.zero_le _) (Nat.zero_le _) (fun H locs hW hS => ?_)
      refine lb_if_eq (tgt := 62) hx hb dX5_answer_33 (by decide) (fun c_3 => ?_) (fun c_3 => ?_)
      · skip
        refine lv_sipush (v := (-1002)) hx hb dX5_answer_62 (by decide) ?_
        exact w_iret X hr hlk hS (by first | rfl | (simp [mcAnswer, mAnI, mAnJ, mw, mwJ, c_1, c_2, c_3]; done) | (simp [mcAnswer, mAnI, mAnJ, mw, mwJ, c_1, c_2, c_3]; rfl)) (hW.to (by first | rfl | (simp [mcAnswer, mAnI, mAnJ, mw, mwJ, c_1, c_2, c_3]; done)) (by first | rfl | (simp [mcAnswer, mAnI, mAnJ, mw, mwJ, c_1, c_2, c_3]; done))) dX5_answer_65
      · skip
        refine lv_iload hx hb dX5_answer_36 (lv_at hl 4 rfl) ?_
        refine lv_i2l (v := Int32.toInt64 y1) hx hb dX5_answer_38 rfl ?_
        refine lv_lconst (v := 1) hx hb dX5_answer_39 (by decide) ?_
        refine lv_ldc2 hx hb X.1.2.2.2.1 (hG _ g602) dX5_answer_40 ?_
        refine w_cS1 X hS (m_X5_in l G (Wd G ad nA nK I J) (Int32.toInt64 y1) 1 1023 ) rfl rfl g583 g4 g581 g582 hd_X5_in ⟨Nat.le_of_ble_eq_true rfl, Nat.le_of_ble_eq_true rfl⟩ hW hl.1 rfl (Nat.le_of_ble_eq_true rfl) dX5_answer_43 (Nat.zero_le _) (Nat.zero_le _) (fun H locs hW hS => ?_)
        refine lb_if_eq (tgt := 62) hx hb dX5_answer_46 (by decide) (fun c_4 => ?_) (fun c_4 => ?_)
        · skip
          refine lv_sipush (v := (-1002)) hx hb dX5_answer_62 (by decide) ?_
          exact w_iret X hr hlk hS (by first | rfl | (simp [mcAnswer, mAnI, mAnJ, mw, mwJ, c_1, c_2, c_3, c_4]; done) | (simp [mcAnswer, mAnI, mAnJ, mw, mwJ, c_1, c_2, c_3, c_4]; rfl)) (hW.to (by first | rfl | (simp [mcAnswer, mAnI, mAnJ, mw, mwJ, c_1, c_2, c_3, c_4]; done)) (by first | rfl | (simp [mcAnswer, mAnI, mAnJ, mw, mwJ, c_1, c_2, c_3, c_4]; done))) dX5_answer_65
        · skip
          refine lv_iload hx hb dX5_answer_49 (lv_at hl 5 rfl) ?_
          refine lv_i2l (v := Int32.toInt64 z1) hx hb dX5_answer_51 rfl ?_
          refine lv_lconst (v := 1) hx hb dX5_answer_52 (by decide) ?_
          refine lv_ldc2 hx hb X.1.2.2.2.1 (hG _ g603) dX5_answer_53 ?_
          refine w_cS1 X hS (m_X5_in l G (Wd G ad nA nK I J) (Int32.toInt64 z1) 1 15 ) rfl rfl g583 g4 g581 g582 hd_X5_in ⟨Nat.le_of_ble_eq_true rfl, Nat.le_of_ble_eq_true rfl⟩ hW hl.1 rfl (Nat.le_of_ble_eq_true rfl) dX5_answer_56 (Nat.zero_le _) (Nat.zero_le _) (fun H locs hW hS => ?_)
          refine lb_if_ne (tgt := 66) hx hb dX5_answer_59 (by decide) (fun c_5 => ?_) (fun c_5 => ?_)
          · skip
            refine lv_aload_n hx hb dX5_answer_66 rfl (lv_at hl 0 rfl) ?_
            refine w_get (v := .int (nI mA)) X hW 13 0 Nat.zero_lt_one rfl rfl inG5 6 (by decide) g504 (congrArg (fun z => some (Value.int z)) hs.1) dX5_answer_67 ?_
            refine lv_bipush (v := 24) hx hb dX5_answer_70 (by decide) ?_
            refine lv_icmp_ne (tgt := 79) hx hb dX5_answer_72 (by decide) (fun c_6 => ?_) (fun c_6 => ?_)
            · skip
              have h24 : mA < 24 := nI_full (N := 24) (by omega) (by decide) rfl c_6
              refine lv_aload_n hx hb dX5_answer_79 rfl (lv_at hl 0 rfl) ?_
              refine lv_iconst (v := 0) hx hb dX5_answer_80 (by decide) ?_
              refine w_cV1 X hS (m_X5_fresh l G ad nA nK mA mK E I J 0 hs (by first | assumption | omega)) rfl rfl g607 g4 g604 g606 p29 hd_X5_fresh ⟨Nat.le_of_ble_eq_true rfl, Nat.le_of_ble_eq_true rfl⟩ (k_rec X hW 13 0 Nat.zero_lt_one rfl rfl) hW hl.1 rfl (Nat.le_of_ble_eq_true rfl) dX5_answer_81 (Nat.zero_le _) (Nat.zero_le _) (fun H locs hW hS => ?_)
              obtain ⟨I7, eI7⟩ : ∃ z, z = mFr mA 0 I := ⟨_, rfl⟩
              rw [← eI7] at hW
              obtain ⟨J7, eJ7⟩ : ∃ z, z = mFrJ mA J := ⟨_, rfl⟩
              rw [← eJ7] at hW
              refine lv_istore (lv' := [(7, .int (nI mA)), (0, .ref (ad 13 0)), (1, .long (x0)), (3, .int st), (4, .int x1), (5, .int y1), (6, .int z1)]) hx hb dX5_answer_84 hl (by decide) rfl (fun ls hl => ?_)
              refine lv_aload_n hx hb dX5_answer_86 rfl (lv_at hl 1 rfl) ?_
              refine w_get X hW 13 0 Nat.zero_lt_one rfl rfl inG5 9 (by decide) g507 rfl dX5_answer_87 ?_
              refine lv_iload hx hb dX5_answer_90 (lv_at hl 0 rfl) ?_
              refine lv_lload_n hx hb dX5_answer_92 rfl (lv_at hl 2 rfl) ?_
              refine w_lastN (i := mA) X hW hS 29 0 Nat.zero_lt_one rfl (by omega) rfl dX5_answer_93 (fun H locs hW hS => ?_)
              obtain ⟨J8, eJ8⟩ : ∃ z, z = k_up J7 29 0 (vp_updL (J7 29 0) mA x0) := ⟨_, rfl⟩
              rw [← eJ8] at hW
              refine lv_aload_n hx hb dX5_answer_94 rfl (lv_at hl 1 rfl) ?_
              refine w_get X hW 13 0 Nat.zero_lt_one rfl rfl inG5 10 (by decide) g508 rfl dX5_answer_95 ?_
              refine lv_iload hx hb dX5_answer_98 (lv_at hl 0 rfl) ?_
              refine lv_iload_n hx hb dX5_answer_100 rfl (lv_at hl 3 rfl) ?_
              refine w_iastN (i := mA) X hW hS 30 0 Nat.zero_lt_one rfl (by omega) rfl dX5_answer_101 (fun H locs hW hS => ?_)
              obtain ⟨I9, eI9⟩ : ∃ z, z = k_up I7 30 0 (upd (I7 30 0) mA st) := ⟨_, rfl⟩
              rw [← eI9] at hW
              refine lv_aload_n hx hb dX5_answer_102 rfl (lv_at hl 1 rfl) ?_
              refine w_get X hW 13 0 Nat.zero_lt_one rfl rfl inG5 11 (by decide) g509 rfl dX5_answer_103 ?_
              refine lv_iconst (v := 3) hx hb dX5_answer_106 (by decide) ?_
              refine lv_iload hx hb dX5_answer_107 (lv_at hl 0 rfl) ?_
              refine lw_imulN (a := 3) (b := mA) hx hb dX5_answer_109 ?_
              refine lv_iload hx hb dX5_answer_110 (lv_at hl 4 rfl) ?_
              refine w_iastN (i := 3 * mA) X hW hS 31 0 Nat.zero_lt_one rfl (by omega) rfl dX5_answer_112 (fun H locs hW hS => ?_)
              obtain ⟨I10, eI10⟩ : ∃ z, z = k_up I9 31 0 (upd (I9 31 0) (3 * mA) x1) := ⟨_, rfl⟩
              rw [← eI10] at hW
              refine lv_aload_n hx hb dX5_answer_113 rfl (lv_at hl 1 rfl) ?_
              refine w_get X hW 13 0 Nat.zero_lt_one rfl rfl inG5 11 (by decide) g509 rfl dX5_answer_114 ?_
              refine lv_iconst (v := 3) hx hb dX5_answer_117 (by decide) ?_
              refine lv_iload hx hb dX5_answer_118 (lv_at hl 0 rfl) ?_
              refine lw_imulN (a := 3) (b := mA) hx hb dX5_answer_120 ?_
              refine lv_iconst (v := 1) hx hb dX5_answer_121 (by decide) ?_
              refine lw_iaddN (a := 3 * mA) (b := 1) hx hb dX5_answer_122 ?_
              refine lv_iload hx hb dX5_answer_123 (lv_at hl 5 rfl) ?_
              refine w_iastN (i := 3 * mA + 1) X hW hS 31 0 Nat.zero_lt_one rfl (by omega) rfl dX5_answer_125 (fun H locs hW hS => ?_)
              obtain ⟨I11, eI11⟩ : ∃ z, z = k_up I10 31 0 (upd (I10 31 0) (3 * mA + 1) y1) := ⟨_, rfl⟩
              rw [← eI11] at hW
              refine lv_aload_n hx hb dX5_answer_126 rfl (lv_at hl 1 rfl) ?_
              refine w_get X hW 13 0 Nat.zero_lt_one rfl rfl inG5 11 (by decide) g509 rfl dX5_answer_127 ?_
              refine lv_iconst (v := 3) hx hb dX5_answer_130 (by decide) ?_
              refine lv_iload hx hb dX5_answer_131 (lv_at hl 0 rfl) ?_
              refine lw_imulN (a := 3) (b := mA) hx hb dX5_answer_133 ?_
              refine lv_iconst (v := 2) hx hb dX5_answer_134 (by decide) ?_
              refine lw_iaddN (a := 3 * mA) (b := 2) hx hb dX5_answer_135 ?_
              refine lv_iload hx hb dX5_answer_136 (lv_at hl 6 rfl) ?_
              refine w_iastN (i := 3 * mA + 2) X hW hS 31 0 Nat.zero_lt_one rfl (by omega) rfl dX5_answer_138 (fun H locs hW hS => ?_)
              obtain ⟨I12, eI12⟩ : ∃ z, z = k_up I11 31 0 (upd (I11 31 0) (3 * mA + 2) z1) := ⟨_, rfl⟩
              rw [← eI12] at hW
              refine lv_iload hx hb dX5_answer_139 (lv_at hl 0 rfl) ?_
              exact w_iret X hr hlk hS (by first | rfl | (simp [mcAnswer, mAnI, mAnJ, mw, mwJ, c_1, c_2, c_3, c_4, c_5, c_6, eI7, eJ7, eJ8, eI9, eI10, eI11, eI12]; done) | (subst eI12 eI11 eI10 eI9 eJ8 eJ7 eI7; simp [mcAnswer, mAnI, mAnJ, mw, mwJ, c_1, c_2, c_3, c_4, c_5, c_6]; done) | (simp [mcAnswer, mAnI, mAnJ, mw, mwJ, c_1, c_2, c_3, c_4, c_5, c_6, eI7, eJ7, eJ8, eI9, eI10, eI11, eI12]; rfl)) (hW.to (by first | rfl | (subst eI12 eI11 eI10 eI9 eJ8 eJ7 eI7; simp [mcAnswer, mAnI, mAnJ, mw, mwJ, c_1, c_2, c_3, c_4, c_5, c_6]; done) | (subst eI12 eI11 eI10 eI9 eJ8 eJ7 eI7; rfl) | (subst eI12 eI11 eI10 eI9 eJ8 eJ7 eI7; simp [mcAnswer, mAnI, mAnJ, mw, mwJ, c_1, c_2, c_3, c_4, c_5, c_6]; done) | (subst eI12 eI11 eI10 eI9 eJ8 eJ7 eI7; simp [mcAnswer, mAnI, mAnJ, mw, mwJ, c_1, c_2, c_3, c_4, c_5, c_6]; rfl) | (simp [mcAnswer, mAnI, mAnJ, mw, mwJ, c_1, c_2, c_3, c_4, c_5, c_6, eI7, eJ7, eJ8, eI9, eI10, eI11, eI12]; done)) (by first | rfl | (subst eI12 eI11 eI10 eI9 eJ8 eJ7 eI7; simp [mcAnswer, mAnI, mAnJ, mw, mwJ, c_1, c_2, c_3, c_4, c_5, c_6]; done) | (subst eI12 eI11 eI10 eI9 eJ8 eJ7 eI7; rfl) | (subst eI12 eI11 eI10 eI9 eJ8 eJ7 eI7; simp [mcAnswer, mAnI, mAnJ, mw, mwJ, c_1, c_2, c_3, c_4, c_5, c_6]; done) | (subst eI12 eI11 eI10 eI9 eJ8 eJ7 eI7; simp [mcAnswer, mAnI, mAnJ, mw, mwJ, c_1, c_2, c_3, c_4, c_5, c_6]; rfl) | (simp [mcAnswer, mAnI, mAnJ, mw, mwJ, c_1, c_2, c_3, c_4, c_5, c_6, eI7, eJ7, eJ8, eI9, eI10, eI11, eI12]; done))) dX5_answer_141
            · skip
              refine lv_sipush (v := (-1004)) hx hb dX5_answer_75 (by decide) ?_
              exact w_iret X hr hlk hS (by first | rfl | (simp [mcAnswer, mAnI, mAnJ, mw, mwJ, c_1, c_2, c_3, c_4, c_5, c_6]; done) | (simp [mcAnswer, mAnI, mAnJ, mw, mwJ, c_1, c_2, c_3, c_4, c_5, c_6]; rfl)) (hW.to (by first | rfl | (simp [mcAnswer, mAnI, mAnJ, mw, mwJ, c_1, c_2, c_3, c_4, c_5, c_6]; done)) (by first | rfl | (simp [mcAnswer, mAnI, mAnJ, mw, mwJ, c_1, c_2, c_3, c_4, c_5, c_6]; done))) dX5_answer_78
          · skip
            refine lv_sipush (v := (-1002)) hx hb dX5_answer_62 (by decide) ?_
            exact w_iret X hr hlk hS (by first | rfl | (simp [mcAnswer, mAnI, mAnJ, mw, mwJ, c_1, c_2, c_3, c_4, c_5]; done) | (simp [mcAnswer, mAnI, mAnJ, mw, mwJ, c_1, c_2, c_3, c_4, c_5]; rfl)) (hW.to (by first | rfl | (simp [mcAnswer, mAnI, mAnJ, mw, mwJ, c_1, c_2, c_3, c_4, c_5]; done)) (by first | rfl | (simp [mcAnswer, mAnI, mAnJ, mw, mwJ, c_1, c_2, c_3, c_4, c_5]; done))) dX5_answer_65
