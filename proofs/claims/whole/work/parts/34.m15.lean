set_option maxHeartbeats 1200000 in
set_option maxRecDepth 100000 in
theorem m_X5_fresh (l : Launch) (G : k_G) (ad : Nat → Nat → Nat) (nA nK : Nat) (mA mK : Nat) (E : Nat → Nat) (I : k_I) (J : k_J) (k9 : Int32) (hs : m_S mA mK E I) (h24 : mA < 24) : k_Met l yX5_fresh cX5_fresh 4 (some FieldType.int) { frames := 0, cells := 0, slots := 0, locals := 0 } G [.ref (ad 13 0), .int k9] (Wd G ad nA nK I J) (some (.int (nI (mA)))) (Wd G ad nA nK (mFr mA k9 I) (mFrJ mA J)) 0 0 := by
  refine k_body (by decide) (Nat.le_of_ble_eq_true rfl) ?_
  intro p e s m below meth c ls X hr hlk hnm hW hS hl
  have hx := X.1.1
  have hb := X.1.2.1
  have hG := X.1.2.2.2.2
  have hA24 := hs.2.2.1
  have hK30 := hs.2.2.2.1
  have hl : lv_has ls 4 [(0, .ref (ad 13 0)), (1, .int k9)] := hl
  refine lv_aload_n hx hb dX5_fresh_0 rfl (lv_at hl 0 rfl) ?_
  refine w_get (v := .int (nI mA)) X hW 13 0 Nat.zero_lt_one rfl rfl inG5 6 (by decide) g504 (congrArg (fun z => some (Value.int z)) hs.1) dX5_fresh_1 ?_
  refine lv_istore_n (lv' := [(2, .int (nI mA)), (0, .ref (ad 13 0)), (1, .int k9)]) hx hb dX5_fresh_4 rfl hl (by decide) rfl (fun ls hl => ?_)
  refine lv_aload_n hx hb dX5_fresh_5 rfl (lv_at hl 1 rfl) ?_
  refine w_get X hW 13 0 Nat.zero_lt_one rfl rfl inG5 7 (by decide) g505 rfl dX5_fresh_6 ?_
  refine lv_iload_n hx hb dX5_fresh_9 rfl (lv_at hl 0 rfl) ?_
  refine lv_iload_n hx hb dX5_fresh_10 rfl (lv_at hl 2 rfl) ?_
  refine w_iastN (i := mA) X hW hS 27 0 Nat.zero_lt_one rfl (by omega) rfl dX5_fresh_11 (fun H locs hW hS => ?_)
  obtain ⟨I1, eI1⟩ : ∃ z, z = k_up I 27 0 (upd (I 27 0) mA k9) := ⟨_, rfl⟩
  rw [← eI1] at hW
  have hs1 : m_S mA mK E I1 := by rw [eI1]; exact hs.up 27 _ _ (by decide)
  refine lv_aload_n hx hb dX5_fresh_12 rfl (lv_at hl 1 rfl) ?_
  refine w_get X hW 13 0 Nat.zero_lt_one rfl rfl inG5 8 (by decide) g506 rfl dX5_fresh_13 ?_
  refine lv_iload_n hx hb dX5_fresh_16 rfl (lv_at hl 0 rfl) ?_
  refine lv_iconst (v := (-1)) hx hb dX5_fresh_17 (by decide) ?_
  refine w_iastN (i := mA) X hW hS 28 0 Nat.zero_lt_one rfl (by omega) rfl dX5_fresh_18 (fun H locs hW hS => ?_)
  obtain ⟨I2, eI2⟩ : ∃ z, z = k_up I1 28 0 (upd (I1 28 0) mA (-1)) := ⟨_, rfl⟩
  rw [← eI2] at hW
  refine lv_aload_n hx hb dX5_fresh_19 rfl (lv_at hl 1 rfl) ?_
  refine w_get X hW 13 0 Nat.zero_lt_one rfl rfl inG5 9 (by decide) g507 rfl dX5_fresh_20 ?_
  refine lv_iload_n hx hb dX5_fresh_23 rfl (lv_at hl 0 rfl) ?_
  refine lv_lconst (v := 0) hx hb dX5_fresh_24 (by decide) ?_
  refine w_lastN (i := mA) X hW hS 29 0 Nat.zero_lt_one rfl (by omega) rfl dX5_fresh_25 (fun H locs hW hS => ?_)
  obtain ⟨J3, eJ3⟩ : ∃ z, z = k_up J 29 0 (vp_updL (J 29 0) mA 0) := ⟨_, rfl⟩
  rw [← eJ3] at hW
  refine lv_aload_n hx hb dX5_fresh_26 rfl (lv_at hl 1 rfl) ?_
  refine w_get X hW 13 0 Nat.zero_lt_one rfl rfl inG5 10 (by decide) g508 rfl dX5_fresh_27 ?_
  refine lv_iload_n hx hb dX5_fresh_30 rfl (lv_at hl 0 rfl) ?_
  refine lv_iconst (v := (-1)) hx hb dX5_fresh_31 (by decide) ?_
  refine w_iastN (i := mA) X hW hS 30 0 Nat.zero_lt_one rfl (by omega) rfl dX5_fresh_32 (fun H locs hW hS => ?_)
  obtain ⟨I4, eI4⟩ : ∃ z, z = k_up I2 30 0 (upd (I2 30 0) mA (-1)) := ⟨_, rfl⟩
  rw [← eI4] at hW
  refine lv_aload_n hx hb dX5_fresh_33 rfl (lv_at hl 1 rfl) ?_
  refine w_get X hW 13 0 Nat.zero_lt_one rfl rfl inG5 12 (by decide) g510 rfl dX5_fresh_34 ?_
  refine lv_iload_n hx hb dX5_fresh_37 rfl (lv_at hl 0 rfl) ?_
  refine lv_iconst (v := 0) hx hb dX5_fresh_38 (by decide) ?_
  refine w_iastN (i := mA) X hW hS 32 0 Nat.zero_lt_one rfl (by omega) rfl dX5_fresh_39 (fun H locs hW hS => ?_)
  obtain ⟨I5, eI5⟩ : ∃ z, z = k_up I4 32 0 (upd (I4 32 0) mA 0) := ⟨_, rfl⟩
  rw [← eI5] at hW
  refine lv_aload_n hx hb dX5_fresh_40 rfl (lv_at hl 1 rfl) ?_
  refine w_get X hW 13 0 Nat.zero_lt_one rfl rfl inG5 13 (by decide) g511 rfl dX5_fresh_41 ?_
  refine lv_iload_n hx hb dX5_fresh_44 rfl (lv_at hl 0 rfl) ?_
  refine lv_aload_n hx hb dX5_fresh_45 rfl (lv_at hl 1 rfl) ?_
  refine w_get X hW 13 0 Nat.zero_lt_one rfl rfl inG5 3 (by decide) g501 rfl dX5_fresh_46 ?_
  refine w_iastN (i := mA) X hW hS 33 0 Nat.zero_lt_one rfl (by omega) rfl dX5_fresh_49 (fun H locs hW hS => ?_)
  obtain ⟨I6, eI6⟩ : ∃ z, z = k_up I5 33 0 (upd (I5 33 0) mA (I5 13 0 3)) := ⟨_, rfl⟩
  rw [← eI6] at hW
  refine lv_aload_n hx hb dX5_fresh_50 rfl (lv_at hl 1 rfl) ?_
  refine w_get X hW 13 0 Nat.zero_lt_one rfl rfl inG5 14 (by decide) g512 rfl dX5_fresh_51 ?_
  refine lv_iload_n hx hb dX5_fresh_54 rfl (lv_at hl 0 rfl) ?_
  refine lv_iconst (v := 0) hx hb dX5_fresh_55 (by decide) ?_
  refine w_iastN (i := mA) X hW hS 34 0 Nat.zero_lt_one rfl (by omega) rfl dX5_fresh_56 (fun H locs hW hS => ?_)
  obtain ⟨I7, eI7⟩ : ∃ z, z = k_up I6 34 0 (upd (I6 34 0) mA 0) := ⟨_, rfl⟩
  rw [← eI7] at hW
  refine lv_iconst (v := 0) hx hb dX5_fresh_57 (by decide) ?_
  refine lv_istore_n (lv' := [(3, .int 0), (2, .int (nI mA)), (0, .ref (ad 13 0)), (1, .int k9)]) hx hb dX5_fresh_58 rfl hl (by decide) rfl (fun ls hl => ?_)
  have loop59 : ∀ (d k : Nat) (m1 : k_I), k + d = 4 → (kLoop (fun k I => mw 35 (4 * mA + k) (-1) I) d k m1 = mFr4 mA I7) → ∀ (H : Heap) (locs : List Loc), Wd G ad nA nK m1 J3 H → va_S (k_A G) s.heap H locs → ∀ ls : Array Slot, lv_has ls 4 [(3, .int (nI k)), (2, .int (nI mA)), (0, .ref (ad 13 0)), (1, .int k9)] → W p l e { frames := 0, cells := 0, slots := 0, locals := 0 } s m ([.ref (ad 13 0), .int k9] : List Value).toArray below meth c H locs 0 0 (MQ below (k_Q G (some (.int (nI (mA)))) (Wd G ad nA nK (mFr mA k9 I) (mFrJ mA J))) ([.ref (ad 13 0), .int k9] : List Value).toArray s 0 0 (k_A G)) (F0 m 59 ls []) := by
    intro d
    induction d with
    | zero =>
      intro k m1 hi59 hz59  H locs hW hS ls hl
      have eIm1 : m1 = mFr4 mA I7 := hz59
      refine lv_iload_n hx hb dX5_fresh_59 rfl (lv_at hl 0 rfl) ?_
      refine lv_iconst (v := 4) hx hb dX5_fresh_60 (by decide) ?_
      refine lv_icmp_ge (tgt := 81) hx hb dX5_fresh_61 (by decide) (fun _ => ?_) (fun c_8 => absurd (nI_le (a := 4) (b := k) (by omega) (by omega)) c_8)
      refine lv_aload_n hx hb dX5_fresh_81 rfl (lv_at hl 2 rfl) ?_
      refine lv_dup hx hb dX5_fresh_82 rfl ?_
      refine w_get X hW 13 0 Nat.zero_lt_one rfl rfl inG5 6 (by decide) g504 rfl dX5_fresh_83 ?_
      refine lv_iconst (v := 1) hx hb dX5_fresh_86 (by decide) ?_
      refine lv_iadd hx hb dX5_fresh_87 ?_
      refine w_puti X hW hS 13 0 Nat.zero_lt_one rfl rfl inG5 tyX5 tyX5_ok nmX5 6 (by decide) g504 rfl rfl rfl (Nat.le_of_ble_eq_true rfl) rfl dX5_fresh_88 (fun H locs hW hS => ?_)
      obtain ⟨I9, eI9⟩ : ∃ z, z = k_up m1 13 0 (upd (m1 13 0) 6 ((m1 13 0 6) + 1)) := ⟨_, rfl⟩
      rw [← eI9] at hW
      refine lv_iload_n hx hb dX5_fresh_91 rfl (lv_at hl 1 rfl) ?_
      exact w_iret X hr hlk hS rfl (hW.to (by first | rfl | (subst eI9 eIm1 eI7 eI6 eI5 eI4 eJ3 eI2 eI1; simp []; done) | (subst eI9 eIm1 eI7 eI6 eI5 eI4 eJ3 eI2 eI1; rfl) | (subst eI9 eIm1 eI7 eI6 eI5 eI4 eJ3 eI2 eI1; simp []; done) | (subst eI9 eIm1 eI7 eI6 eI5 eI4 eJ3 eI2 eI1; simp []; rfl) | (simp [eI1, eI2, eJ3, eI4, eI5, eI6, eI7, eIm1, eI9]; done)) (by first | rfl | (subst eI9 eIm1 eI7 eI6 eI5 eI4 eJ3 eI2 eI1; simp []; done) | (subst eI9 eIm1 eI7 eI6 eI5 eI4 eJ3 eI2 eI1; rfl) | (subst eI9 eIm1 eI7 eI6 eI5 eI4 eJ3 eI2 eI1; simp []; done) | (subst eI9 eIm1 eI7 eI6 eI5 eI4 eJ3 eI2 eI1; simp []; rfl) | (simp [eI1, eI2, eJ3, eI4, eI5, eI6, eI7, eIm1, eI9]; done))) dX5_fresh_92
    | succ d ih =>
      intro k m1 hi59 hz59  H locs hW hS ls hl
      have hlt59 : k < 4 := by omega
      have ih59 := ih
      refine lv_iload_n hx hb dX5_fresh_59 rfl (lv_at hl 0 rfl) ?_
      refine lv_iconst (v := 4) hx hb dX5_fresh_60 (by decide) ?_
      refine lv_icmp_ge (tgt := 81) hx hb dX5_fresh_61 (by decide) (fun c_10 => absurd c_10 (nI_ge (a := k) (b := 4) (by omega) (by omega))) (fun _ => ?_)
      refine lv_aload_n hx hb dX5_fresh_64 rfl (lv_at hl 2 rfl) ?_
      refine w_get X hW 13 0 Nat.zero_lt_one rfl rfl inG5 15 (by decide) g513 rfl dX5_fresh_65 ?_
      refine lv_iconst (v := 4) hx hb dX5_fresh_68 (by decide) ?_
      refine lv_iload_n hx hb dX5_fresh_69 rfl (lv_at hl 1 rfl) ?_
      refine lw_imulN (a := 4) (b := mA) hx hb dX5_fresh_70 ?_
      refine lv_iload_n hx hb dX5_fresh_71 rfl (lv_at hl 0 rfl) ?_
      refine lw_iaddN (a := 4 * mA) (b := k) hx hb dX5_fresh_72 ?_
      refine lv_iconst (v := (-1)) hx hb dX5_fresh_73 (by decide) ?_
      refine w_iastN (i := 4 * mA + k) X hW hS 35 0 Nat.zero_lt_one rfl (by omega) rfl dX5_fresh_74 (fun H locs hW hS => ?_)
      obtain ⟨I11, eI11⟩ : ∃ z, z = k_up m1 35 0 (upd (m1 35 0) (4 * mA + k) (-1)) := ⟨_, rfl⟩
      rw [← eI11] at hW
      refine lv_iinc (v := nI (k + 1)) (lv' := [(3, .int (nI (k + 1))), (2, .int (nI mA)), (0, .ref (ad 13 0)), (1, .int k9)]) hx hb dX5_fresh_75 hl (k := 0) rfl (nI_1 k) (by decide) rfl (fun ls hl => ?_)
      refine lv_goto (tgt := 59) hx hb dX5_fresh_78 (by decide) ?_
      exact ih59 (k + 1) I11 (by omega) (by subst eI11; first | exact hz59 | (rw [← hz59]; simp [kLoop, mw]; done) | (rw [← hz59]; simp [kLoop, mw]; rfl)) _ _ hW hS ls (lv_sub hl [0, 1, 2, 3] rfl)
  exact loop59 4 0 I7 (by omega) rfl _ _ hW hS ls (lv_sub hl [0, 1, 2, 3] rfl)
set_option maxHeartbeats 1200000 in
set_option maxRecDepth 100000 in
theorem m_X5_answer (l : Launch) (G : k_G) (ad : Nat → Nat → Nat) (nA nK : Nat) (mA mK : Nat) (E : Nat → Nat) (I : k_I) (J : k_J) (x0 : Int64) (st : Int32) (x : Int32) (y : Int32) (z : Int32) (hs : m_S mA mK E I) : k_Met l yX5_answer cX5_answer 8 (some FieldType.int) { frames := 1, cells := 0, slots := 0, locals := 25 } G [.ref (ad 13 0), .long (x0), .int st, .int x, .int y, .int z] (Wd G ad nA nK I J) (some (.int ((mcAnswer mA x0 st x y z (I, J)).1))) (Wd G ad nA nK ((mcAnswer mA x0 st x y z (I, J)).2.1) ((mcAnswer mA x0 st x y z (I, J)).2.2)) 0 0 := by
  refine k_body (by decide) (Nat.le_of_ble_eq_true rfl) ?_
  intro p e s m below meth c ls X hr hlk hnm hW hS hl
  have hx := X.1.1
  have hb := X.1.2.1
  have hG := X.1.2.2.2.2
  have hA24 := hs.2.2.1
  have hK30 := hs.2.2.2.1
  have hl : lv_has ls 8 [(0, .ref (ad 13 0)), (1, .long (x0)), (3, .int st), (4, .int x), (5, .int y), (6, .int z)] := hl
  refine lv_lload_n hx hb dX5_answer_0 rfl (lv_at hl 1 rfl) ?_
  refine lv_lconst (v := 0) hx hb dX5_answer_1 (by decide) ?_
  refine lv_ldc2 hx hb X.1.2.2.2.1 (hG _ g599) dX5_answer_2 ?_
  refine w_cS1 X hS (m_X5_in l G (Wd G ad nA nK I J) x0 0 1099511627775 ) rfl rfl g583 g4 g581 g582 hd_X5_in ⟨Nat.le_of_ble_eq_true rfl, Nat.le_of_ble_eq_true rfl⟩ hW hl.1 rfl (Nat.le_of_ble_eq_true rfl) dX5_answer_5 (Nat.zero_le _) (Nat.zero_le _) (fun H locs hW hS => ?_)
  refine lb_if_eq (tgt := 62) hx hb dX5_answer_8 (by decide) (fun c_1 => ?_) (fun c_1 => ?_)
  · skip
    refine lv_sipush (v := (-1002)) hx hb dX5_answer_62 (by decide) ?_
    exact w_iret X hr hlk hS (by first | rfl | (simp [mcAnswer, mAnI, mAnJ, mw, mwJ, c_1]; done) | (simp [mcAnswer, mAnI, mAnJ, mw, mwJ, c_1]; rfl)) (hW.to (by first | rfl | (simp [mcAnswer, mAnI, mAnJ, mw, mwJ, c_1]; done)) (by first | rfl | (simp [mcAnswer, mAnI, mAnJ, mw, mwJ, c_1]; done))) dX5_answer_65
  · skip
    refine lv_iload_n hx hb dX5_answer_11 rfl (lv_at hl 2 rfl) ?_
    refine lv_i2l (v := Int32.toInt64 st) hx hb dX5_answer_12 rfl ?_
    refine lv_lconst (v := 0) hx hb dX5_answer_13 (by decide) ?_
    refine lv_ldc2 hx hb X.1.2.2.2.1 (hG _ g600) dX5_answer_14 ?_
    refine w_cS1 X hS (m_X5_in l G (Wd G ad nA nK I J) (Int32.toInt64 st) 0 9999 ) rfl rfl g583 g4 g581 g582 hd_X5_in ⟨Nat.le_of_ble_eq_true rfl, Nat.le_of_ble_eq_true rfl⟩ hW hl.1 rfl (Nat.le_of_ble_eq_true rfl) dX5_answer_17 (Nat.zero_le _) (Nat.zero_le _) (fun H locs hW hS => ?_)
    refine lb_if_eq (tgt := 62) hx hb dX5_answer_20 (by decide) (fun c_2 => ?_) (fun c_2 => ?_)
    · skip
      refine lv_sipush (v := (-1002)) hx hb dX5_answer_62 (by decide) ?_
      exact w_iret X hr hlk hS (by first | rfl | (simp [mcAnswer, mAnI, mAnJ, mw, mwJ, c_1, c_2]; done) | (simp [mcAnswer, mAnI, mAnJ, mw, mwJ, c_1, c_2]; rfl)) (hW.to (by first | rfl | (simp [mcAnswer, mAnI, mAnJ, mw, mwJ, c_1, c_2]; done)) (by first | rfl | (simp [mcAnswer, mAnI, mAnJ, mw, mwJ, c_1, c_2]; done))) dX5_answer_65
    · skip
      refine lv_iload hx hb dX5_answer_23 (lv_at hl 3 rfl) ?_
      refine lv_i2l (v := Int32.toInt64 x) hx hb dX5_answer_25 rfl ?_
      refine lv_lconst (v := 1) hx hb dX5_answer_26 (by decide) ?_
      refine lv_ldc2 hx hb X.1.2.2.2.1 (hG _ g601) dX5_answer_27 ?_
      refine w_cS1 X hS (m_X5_in l G (Wd G ad nA nK I J) (Int32.toInt64 x) 1 255 ) rfl rfl g583 g4 g581 g582 hd_X5_in ⟨Nat.le_of_ble_eq_true rfl, Nat.le_of_ble_eq_true rfl⟩ hW hl.1 rfl (Nat.le_of_ble_eq_true rfl) dX5_answer_30 (Nat.zero_le _) (Nat.zero_le _) (fun H locs hW hS => ?_)
      refine lb_if_eq (tgt := 62) hx hb dX5_answer_33 (by decide) (fun c_3 => ?_) (fun c_3 => ?_)
      · skip
        refine lv_sipush (v := (-1002)) hx hb dX5_answer_62 (by decide) ?_
        exact w_iret X hr hlk hS (by first | rfl | (simp [mcAnswer, mAnI, mAnJ, mw, mwJ, c_1, c_2, c_3]; done) | (simp [mcAnswer, mAnI, mAnJ, mw, mwJ, c_1, c_2, c_3]; rfl)) (hW.to (by first | rfl | (simp [mcAnswer, mAnI, mAnJ, mw, mwJ, c_1, c_2, c_3]; done)) (by first | rfl | (simp [mcAnswer, mAnI, mAnJ, mw, mwJ, c_1, c_2, c_3]; done))) dX5_answer_65
      · skip
        refine lv_iload hx hb dX5_answer_36 (lv_at hl 4 rfl) ?_
        refine lv_i2l (v := Int32.toInt64 y) hx hb dX5_answer_38 rfl ?_
        refine lv_lconst (v := 1) hx hb dX5_answer_39 (by decide) ?_
        refine lv_ldc2 hx hb X.1.2.2.2.1 (hG _ g602) dX5_answer_40 ?_
        refine w_cS1 X hS (m_X5_in l G (Wd G ad nA nK I J) (Int32.toInt64 y) 1 1023 ) rfl rfl g583 g4 g581 g582 hd_X5_in ⟨Nat.le_of_ble_eq_true rfl, Nat.le_of_ble_eq_true rfl⟩ hW hl.1 rfl (Nat.le_of_ble_eq_true rfl) dX5_answer_43 (Nat.zero_le _) (Nat.zero_le _) (fun H locs hW hS => ?_)
        refine lb_if_eq (tgt := 62) hx hb dX5_answer_46 (by decide) (fun c_4 => ?_) (fun c_4 => ?_)
        · skip
          refine lv_sipush (v := (-1002)) hx hb dX5_answer_62 (by decide) ?_
          exact w_iret X hr hlk hS (by first | rfl | (simp [mcAnswer, mAnI, mAnJ, mw, mwJ, c_1, c_2, c_3, c_4]; done) | (simp [mcAnswer, mAnI, mAnJ, mw, mwJ, c_1, c_2, c_3, c_4]; rfl)) (hW.to (by first | rfl | (simp [mcAnswer, mAnI, mAnJ, mw, mwJ, c_1, c_2, c_3, c_4]; done)) (by first | rfl | (simp [mcAnswer, mAnI, mAnJ, mw, mwJ, c_1, c_2, c_3, c_4]; done))) dX5_answer_65
        · skip
          refine lv_iload hx hb dX5_answer_49 (lv_at hl 5 rfl) ?_
          refine lv_i2l (v := Int32.toInt64 z) hx hb dX5_answer_51 rfl ?_
          refine lv_lconst (v := 1) hx hb dX5_answer_52 (by decide) ?_
          refine lv_ldc2 hx hb X.1.2.2.2.1 (hG _ g603) dX5_answer_53 ?_
          refine w_cS1 X hS (m_X5_in l G (Wd G ad nA nK I J) (Int32.toInt64 z) 1 15 ) rfl rfl g583 g4 g581 g582 hd_X5_in ⟨Nat.le_of_ble_eq_true rfl, Nat.le_of_ble_eq_true rfl⟩ hW hl.1 rfl (Nat.le_of_ble_eq_true rfl) dX5_answer_56 (Nat.zero_le _) (Nat.zero_le _) (fun H locs hW hS => ?_)
          refine lb_if_ne (tgt := 66) hx hb dX5_answer_59 (by decide) (fun c_5 => ?_) (fun c_5 => ?_)
          · skip
            refine lv_aload_n hx hb dX5_answer_66 rfl (lv_at hl 0 rfl) ?_
            refine w_get (v := .int (nI mA)) X hW 13 0 Nat.zero_lt_one rfl rfl inG5 6 (by decide) g504 (congrArg (fun z => some (Value.int z)) hs.1) dX5_answer_67 ?_
            refine lv_bipush (v := 24) hx hb dX5_answer_70 (by decide) ?_
            refine lv_icmp_ne (tgt := 79) hx hb dX5_answer_72 (by decide) (fun c_6 => ?_) (fun c_6 => ?_)
            · skip
              have h24 : mA < 24 := nI_full (N := 24) (by omega) (by decide) rfl c_6
              refine lv_aload_n hx hb dX5_answer_79 rfl (lv_at hl 0 rfl) ?_
              refine lv_iconst (v := 0) hx hb dX5_answer_80 (by decide) ?_
              refine w_cV1 X hS (m_X5_fresh l G ad nA nK mA mK E I J 0 hs (by first | assumption | omega)) rfl rfl g607 g4 g604 g606 p29 hd_X5_fresh ⟨Nat.le_of_ble_eq_true rfl, Nat.le_of_ble_eq_true rfl⟩ (k_rec X hW 13 0 Nat.zero_lt_one rfl rfl) hW hl.1 rfl (Nat.le_of_ble_eq_true rfl) dX5_answer_81 (Nat.zero_le _) (Nat.zero_le _) (fun H locs hW hS => ?_)
              obtain ⟨I7, eI7⟩ : ∃ z, z = mFr mA 0 I := ⟨_, rfl⟩
              rw [← eI7] at hW
              have hs7 : m_S mA mK E I7 := by rw [eI7]; exact sorry
              obtain ⟨J7, eJ7⟩ : ∃ z, z = mFrJ mA J := ⟨_, rfl⟩
              rw [← eJ7] at hW
              refine lv_istore (lv' := [(7, .int (nI mA)), (0, .ref (ad 13 0)), (1, .long (x0)), (3, .int st), (4, .int x), (5, .int y), (6, .int z)]) hx hb dX5_answer_84 hl (by decide) rfl (fun ls hl => ?_)
              refine lv_aload_n hx hb dX5_answer_86 rfl (lv_at hl 1 rfl) ?_
              refine w_get X hW 13 0 Nat.zero_lt_one rfl rfl inG5 9 (by decide) g507 rfl dX5_answer_87 ?_
              refine lv_iload hx hb dX5_answer_90 (lv_at hl 0 rfl) ?_
              refine lv_lload_n hx hb dX5_answer_92 rfl (lv_at hl 2 rfl) ?_
              refine w_lastN (i := mA) X hW hS 29 0 Nat.zero_lt_one rfl (by omega) rfl dX5_answer_93 (fun H locs hW hS => ?_)
              obtain ⟨J8, eJ8⟩ : ∃ z, z = k_up J7 29 0 (vp_updL (J7 29 0) mA x0) := ⟨_, rfl⟩
              rw [← eJ8] at hW
              refine lv_aload_n hx hb dX5_answer_94 rfl (lv_at hl 1 rfl) ?_
              refine w_get X hW 13 0 Nat.zero_lt_one rfl rfl inG5 10 (by decide) g508 rfl dX5_answer_95 ?_
              refine lv_iload hx hb dX5_answer_98 (lv_at hl 0 rfl) ?_
              refine lv_iload_n hx hb dX5_answer_100 rfl (lv_at hl 3 rfl) ?_
              refine w_iastN (i := mA) X hW hS 30 0 Nat.zero_lt_one rfl (by omega) rfl dX5_answer_101 (fun H locs hW hS => ?_)
              obtain ⟨I9, eI9⟩ : ∃ z, z = k_up I7 30 0 (upd (I7 30 0) mA st) := ⟨_, rfl⟩
              rw [← eI9] at hW
              have hs9 : m_S mA mK E I9 := by rw [eI9]; exact hs7.up 30 _ _ (by decide)
              refine lv_aload_n hx hb dX5_answer_102 rfl (lv_at hl 1 rfl) ?_
              refine w_get X hW 13 0 Nat.zero_lt_one rfl rfl inG5 11 (by decide) g509 rfl dX5_answer_103 ?_
              refine lv_iconst (v := 3) hx hb dX5_answer_106 (by decide) ?_
              refine lv_iload hx hb dX5_answer_107 (lv_at hl 0 rfl) ?_
              refine lw_imulN (a := 3) (b := mA) hx hb dX5_answer_109 ?_
              refine lv_iload hx hb dX5_answer_110 (lv_at hl 4 rfl) ?_
              refine w_iastN (i := 3 * mA) X hW hS 31 0 Nat.zero_lt_one rfl (by omega) rfl dX5_answer_112 (fun H locs hW hS => ?_)
              obtain ⟨I10, eI10⟩ : ∃ z, z = k_up I9 31 0 (upd (I9 31 0) (3 * mA) x) := ⟨_, rfl⟩
              rw [← eI10] at hW
              have hs10 : m_S mA mK E I10 := by rw [eI10]; exact hs9.up 31 _ _ (by decide)
              refine lv_aload_n hx hb dX5_answer_113 rfl (lv_at hl 1 rfl) ?_
              refine w_get X hW 13 0 Nat.zero_lt_one rfl rfl inG5 11 (by decide) g509 rfl dX5_answer_114 ?_
              refine lv_iconst (v := 3) hx hb dX5_answer_117 (by decide) ?_
              refine lv_iload hx hb dX5_answer_118 (lv_at hl 0 rfl) ?_
              refine lw_imulN (a := 3) (b := mA) hx hb dX5_answer_120 ?_
              refine lv_iconst (v := 1) hx hb dX5_answer_121 (by decide) ?_
              refine lw_iaddN (a := 3 * mA) (b := 1) hx hb dX5_answer_122 ?_
              refine lv_iload hx hb dX5_answer_123 (lv_at hl 5 rfl) ?_
              refine w_iastN (i := 3 * mA + 1) X hW hS 31 0 Nat.zero_lt_one rfl (by omega) rfl dX5_answer_125 (fun H locs hW hS => ?_)
              obtain ⟨I11, eI11⟩ : ∃ z, z = k_up I10 31 0 (upd (I10 31 0) (3 * mA + 1) y) := ⟨_, rfl⟩
              rw [← eI11] at hW
              have hs11 : m_S mA mK E I11 := by rw [eI11]; exact hs10.up 31 _ _ (by decide)
              refine lv_aload_n hx hb dX5_answer_126 rfl (lv_at hl 1 rfl) ?_
              refine w_get X hW 13 0 Nat.zero_lt_one rfl rfl inG5 11 (by decide) g509 rfl dX5_answer_127 ?_
              refine lv_iconst (v := 3) hx hb dX5_answer_130 (by decide) ?_
              refine lv_iload hx hb dX5_answer_131 (lv_at hl 0 rfl) ?_
              refine lw_imulN (a := 3) (b := mA) hx hb dX5_answer_133 ?_
              refine lv_iconst (v := 2) hx hb dX5_answer_134 (by decide) ?_
              refine lw_iaddN (a := 3 * mA) (b := 2) hx hb dX5_answer_135 ?_
              refine lv_iload hx hb dX5_answer_136 (lv_at hl 6 rfl) ?_
              refine w_iastN (i := 3 * mA + 2) X hW hS 31 0 Nat.zero_lt_one rfl (by omega) rfl dX5_answer_138 (fun H locs hW hS => ?_)
              obtain ⟨I12, eI12⟩ : ∃ z, z = k_up I11 31 0 (upd (I11 31 0) (3 * mA + 2) z) := ⟨_, rfl⟩
              rw [← eI12] at hW
              have hs12 : m_S mA mK E I12 := by rw [eI12]; exact hs11.up 31 _ _ (by decide)
              refine lv_iload hx hb dX5_answer_139 (lv_at hl 0 rfl) ?_
              exact w_iret X hr hlk hS (by first | rfl | (simp [mcAnswer, mAnI, mAnJ, mw, mwJ, c_1, c_2, c_3, c_4, c_5, c_6, eI7, eJ7, eJ8, eI9, eI10, eI11, eI12]; done) | (subst eI12 eI11 eI10 eI9 eJ8 eJ7 eI7; simp [mcAnswer, mAnI, mAnJ, mw, mwJ, c_1, c_2, c_3, c_4, c_5, c_6]; done) | (simp [mcAnswer, mAnI, mAnJ, mw, mwJ, c_1, c_2, c_3, c_4, c_5, c_6, eI7, eJ7, eJ8, eI9, eI10, eI11, eI12]; rfl)) (hW.to (by first | rfl | (subst eI12 eI11 eI10 eI9 eJ8 eJ7 eI7; simp [mcAnswer, mAnI, mAnJ, mw, mwJ, c_1, c_2, c_3, c_4, c_5, c_6]; done) | (subst eI12 eI11 eI10 eI9 eJ8 eJ7 eI7; rfl) | (subst eI12 eI11 eI10 eI9 eJ8 eJ7 eI7; simp [mcAnswer, mAnI, mAnJ, mw, mwJ, c_1, c_2, c_3, c_4, c_5, c_6]; done) | (subst eI12 eI11 eI10 eI9 eJ8 eJ7 eI7; simp [mcAnswer, mAnI, mAnJ, mw, mwJ, c_1, c_2, c_3, c_4, c_5, c_6]; rfl) | (simp [mcAnswer, mAnI, mAnJ, mw, mwJ, c_1, c_2, c_3, c_4, c_5, c_6, eI7, eJ7, eJ8, eI9, eI10, eI11, eI12]; done)) (by first | rfl | (subst eI12 eI11 eI10 eI9 eJ8 eJ7 eI7; simp [mcAnswer, mAnI, mAnJ, mw, mwJ, c_1, c_2, c_3, c_4, c_5, c_6]; done) | (subst eI12 eI11 eI10 eI9 eJ8 eJ7 eI7; rfl) | (subst eI12 eI11 eI10 eI9 eJ8 eJ7 eI7; simp [mcAnswer, mAnI, mAnJ, mw, mwJ, c_1, c_2, c_3, c_4, c_5, c_6]; done) | (subst eI12 eI11 eI10 eI9 eJ8 eJ7 eI7; simp [mcAnswer, mAnI, mAnJ, mw, mwJ, c_1, c_2, c_3, c_4, c_5, c_6]; rfl) | (simp [mcAnswer, mAnI, mAnJ, mw, mwJ, c_1, c_2, c_3, c_4, c_5, c_6, eI7, eJ7, eJ8, eI9, eI10, eI11, eI12]; done))) dX5_answer_141
            · skip
              refine lv_sipush (v := (-1004)) hx hb dX5_answer_75 (by decide) ?_
              exact w_iret X hr hlk hS (by first | rfl | (simp [mcAnswer, mAnI, mAnJ, mw, mwJ, c_1, c_2, c_3, c_4, c_5, c_6]; done) | (simp [mcAnswer, mAnI, mAnJ, mw, mwJ, c_1, c_2, c_3, c_4, c_5, c_6]; rfl)) (hW.to (by first | rfl | (simp [mcAnswer, mAnI, mAnJ, mw, mwJ, c_1, c_2, c_3, c_4, c_5, c_6]; done)) (by first | rfl | (simp [mcAnswer, mAnI, mAnJ, mw, mwJ, c_1, c_2, c_3, c_4, c_5, c_6]; done))) dX5_answer_78
          · skip
            refine lv_sipush (v := (-1002)) hx hb dX5_answer_62 (by decide) ?_
            exact w_iret X hr hlk hS (by first | rfl | (simp [mcAnswer, mAnI, mAnJ, mw, mwJ, c_1, c_2, c_3, c_4, c_5]; done) | (simp [mcAnswer, mAnI, mAnJ, mw, mwJ, c_1, c_2, c_3, c_4, c_5]; rfl)) (hW.to (by first | rfl | (simp [mcAnswer, mAnI, mAnJ, mw, mwJ, c_1, c_2, c_3, c_4, c_5]; done)) (by first | rfl | (simp [mcAnswer, mAnI, mAnJ, mw, mwJ, c_1, c_2, c_3, c_4, c_5]; done))) dX5_answer_65
set_option maxHeartbeats 1200000 in
set_option maxRecDepth 100000 in
theorem m_X5_join (l : Launch) (G : k_G) (ad : Nat → Nat → Nat) (nA nK : Nat) (mA mK : Nat) (E : Nat → Nat) (I : k_I) (J : k_J) (a : Int32) (b : Int32) (c9 : Int32) (d9 : Int32) (hs : m_S mA mK E I) : k_Met l yX5_join cX5_join 8 (some FieldType.int) { frames := 2, cells := 0, slots := 0, locals := 46 } G [.ref (ad 13 0), .int a, .int b, .int c9, .int d9] (Wd G ad nA nK I J) (some (.int ((mcJoin mA a b c9 d9 (I, J)).1))) (Wd G ad nA nK ((mcJoin mA a b c9 d9 (I, J)).2.1) ((mcJoin mA a b c9 d9 (I, J)).2.2)) 0 0 := by
  refine k_body (by decide) (Nat.le_of_ble_eq_true rfl) ?_
  intro p e s m below meth c ls X hr hlk hnm hW hS hl
  have hx := X.1.1
  have hb := X.1.2.1
  have hG := X.1.2.2.2.2
  have hA24 := hs.2.2.1
  have hK30 := hs.2.2.2.1
  have hl : lv_has ls 8 [(0, .ref (ad 13 0)), (1, .int a), (2, .int b), (3, .int c9), (4, .int d9)] := hl
  refine lv_aload_n hx hb dX5_join_0 rfl (lv_at hl 0 rfl) ?_
  refine lv_iload_n hx hb dX5_join_1 rfl (lv_at hl 1 rfl) ?_
  refine w_cV1 X hS (m_X5_is l G ad nA nK mA mK E I J a hs) rfl rfl g615 g4 g612 g614 p30 hd_X5_is ⟨Nat.le_of_ble_eq_true rfl, Nat.le_of_ble_eq_true rfl⟩ (k_rec X hW 13 0 Nat.zero_lt_one rfl rfl) hW hl.1 rfl (Nat.le_of_ble_eq_true rfl) dX5_join_2 (Nat.zero_le _) (Nat.zero_le _) (fun H locs hW hS => ?_)
  refine lb_if_eq (tgt := 44) hx hb dX5_join_5 (by decide) (fun c_1 => ?_) (fun c_1 => ?_)
  · skip
    have hk2 : kAns mA a = none := mIs_none (by omega) c_1
    refine lv_sipush (v := (-1001)) hx hb dX5_join_44 (by decide) ?_
    exact w_iret X hr hlk hS (by first | rfl | (simp [mcJoin, mJoI, mw, c_1, hk2]; done) | (simp [mcJoin, mJoI, mw, c_1, hk2]; rfl)) (hW.to (by first | rfl | (simp [mcJoin, mJoI, mw, c_1, hk2]; done)) (by first | rfl | (simp [mcJoin, mJoI, mw, c_1, hk2]; done))) dX5_join_47
  · skip
    obtain ⟨i3, hi3, rfl⟩ := mIs_nat (by omega) c_1
    have hk3 : kAns mA (nI i3) = some i3 := kAns_lt hi3 (by omega)
    have hl : lv_has ls 8 [(0, .ref (ad 13 0)), (1, .int (nI i3)), (2, .int b), (3, .int c9), (4, .int d9)] := hl
    refine lv_aload_n hx hb dX5_join_8 rfl (lv_at hl 0 rfl) ?_
    refine lv_iload_n hx hb dX5_join_9 rfl (lv_at hl 2 rfl) ?_
    refine w_cV1 X hS (m_X5_is l G ad nA nK mA mK E I J b hs) rfl rfl g615 g4 g612 g614 p30 hd_X5_is ⟨Nat.le_of_ble_eq_true rfl, Nat.le_of_ble_eq_true rfl⟩ (k_rec X hW 13 0 Nat.zero_lt_one rfl rfl) hW hl.1 rfl (Nat.le_of_ble_eq_true rfl) dX5_join_10 (Nat.zero_le _) (Nat.zero_le _) (fun H locs hW hS => ?_)
    refine lb_if_eq (tgt := 44) hx hb dX5_join_13 (by decide) (fun c_4 => ?_) (fun c_4 => ?_)
    · skip
      have hk5 : kAns mA b = none := mIs_none (by omega) c_4
      refine lv_sipush (v := (-1001)) hx hb dX5_join_44 (by decide) ?_
      exact w_iret X hr hlk hS (by first | rfl | (simp [mcJoin, mJoI, mw, c_1, hk3, c_4, hk5]; done) | (simp [mcJoin, mJoI, mw, c_1, hk3, c_4, hk5]; rfl)) (hW.to (by first | rfl | (simp [mcJoin, mJoI, mw, c_1, hk3, c_4, hk5]; done)) (by first | rfl | (simp [mcJoin, mJoI, mw, c_1, hk3, c_4, hk5]; done))) dX5_join_47
    · skip
      obtain ⟨i6, hi6, rfl⟩ := mIs_nat (by omega) c_4
      have hk6 : kAns mA (nI i6) = some i6 := kAns_lt hi6 (by omega)
      have hl : lv_has ls 8 [(0, .ref (ad 13 0)), (1, .int (nI i3)), (2, .int (nI i6)), (3, .int c9), (4, .int d9)] := hl
      refine lv_iload_n hx hb dX5_join_16 rfl (lv_at hl 3 rfl) ?_
      refine lv_iconst (v := (-1)) hx hb dX5_join_17 (by decide) ?_
      refine lv_icmp_eq (tgt := 29) hx hb dX5_join_18 (by decide) (fun c_7 => ?_) (fun c_7 => ?_)
      · skip
        subst c_7
        have hk8 : kAns mA (-1) = none := rfl
        have hl : lv_has ls 8 [(0, .ref (ad 13 0)), (1, .int (nI i3)), (2, .int (nI i6)), (3, .int ((-1))), (4, .int d9)] := hl
        refine lv_iload hx hb dX5_join_29 (lv_at hl 4 rfl) ?_
        refine lv_iconst (v := (-1)) hx hb dX5_join_31 (by decide) ?_
        refine lv_icmp_eq (tgt := 48) hx hb dX5_join_32 (by decide) (fun c_9 => ?_) (fun c_9 => ?_)
        · skip
          subst c_9
          have hk10 : kAns mA (-1) = none := rfl
          have hl : lv_has ls 8 [(0, .ref (ad 13 0)), (1, .int (nI i3)), (2, .int (nI i6)), (3, .int ((-1))), (4, .int ((-1)))] := hl
          have join97 : ∀ (pl : Bool), (pl = (mPlX mA I (nI i3) && (mPlX mA I (nI i6) && (mPlX mA I (-1) && mPlX mA I (-1))))) → ∀ (H : Heap) (locs : List Loc), Wd G ad nA nK I J H → va_S (k_A G) s.heap H locs → ∀ ls : Array Slot, lv_has ls 8 [(5, .int (k_b pl)), (0, .ref (ad 13 0)), (1, .int (nI i3)), (2, .int (nI i6)), (3, .int ((-1))), (4, .int ((-1)))] → W p l e { frames := 2, cells := 0, slots := 0, locals := 46 } s m ([.ref (ad 13 0), .int (nI i3), .int (nI i6), .int (-1), .int (-1)] : List Value).toArray below meth c H locs 0 0 (MQ below (k_Q G (some (.int ((mcJoin mA (nI i3) (nI i6) (-1) (-1) (I, J)).1))) (Wd G ad nA nK ((mcJoin mA (nI i3) (nI i6) (-1) (-1) (I, J)).2.1) ((mcJoin mA (nI i3) (nI i6) (-1) (-1) (I, J)).2.2))) ([.ref (ad 13 0), .int (nI i3), .int (nI i6), .int (-1), .int (-1)] : List Value).toArray s 0 0 (k_A G)) (F0 m 97 ls []) := by
            intro pl hpl H locs hW hS ls hl
            have join141 : ∀ (un : Bool), (un = mUnl (nI i3) (nI i6) (-1) (-1)) → ∀ (H : Heap) (locs : List Loc), Wd G ad nA nK I J H → va_S (k_A G) s.heap H locs → ∀ ls : Array Slot, lv_has ls 8 [(6, .int (k_b un)), (5, .int (k_b pl)), (0, .ref (ad 13 0)), (1, .int (nI i3)), (2, .int (nI i6)), (3, .int ((-1))), (4, .int ((-1)))] → W p l e { frames := 2, cells := 0, slots := 0, locals := 46 } s m ([.ref (ad 13 0), .int (nI i3), .int (nI i6), .int (-1), .int (-1)] : List Value).toArray below meth c H locs 0 0 (MQ below (k_Q G (some (.int ((mcJoin mA (nI i3) (nI i6) (-1) (-1) (I, J)).1))) (Wd G ad nA nK ((mcJoin mA (nI i3) (nI i6) (-1) (-1) (I, J)).2.1) ((mcJoin mA (nI i3) (nI i6) (-1) (-1) (I, J)).2.2))) ([.ref (ad 13 0), .int (nI i3), .int (nI i6), .int (-1), .int (-1)] : List Value).toArray s 0 0 (k_A G)) (F0 m 141 ls []) := by
              intro un hun H locs hW hS ls hl
              refine lv_iload hx hb dX5_join_141 (lv_at hl 1 rfl) ?_
              refine lb_if_eq (tgt := 160) hx hb dX5_join_143 (by decide) (fun c_11 => ?_) (fun c_11 => ?_)
              · skip
                refine lv_sipush (v := (-1003)) hx hb dX5_join_160 (by decide) ?_
                exact w_iret X hr hlk hS (by first | rfl | (simp [mcJoin, mJoI, mw, c_1, hk3, c_4, hk6, hk8, hk10, hpl, hun, c_11]; done) | (simp [mcJoin, mJoI, mw, c_1, hk3, c_4, hk6, hk8, hk10, hpl, hun, c_11]; rfl)) (hW.to (by first | rfl | (simp [mcJoin, mJoI, mw, c_1, hk3, c_4, hk6, hk8, hk10, hpl, hun, c_11]; done)) (by first | rfl | (simp [mcJoin, mJoI, mw, c_1, hk3, c_4, hk6, hk8, hk10, hpl, hun, c_11]; done))) dX5_join_163
              · skip
                refine lv_iload hx hb dX5_join_146 (lv_at hl 0 rfl) ?_
                refine lb_if_eq (tgt := 160) hx hb dX5_join_148 (by decide) (fun c_12 => ?_) (fun c_12 => ?_)
                · skip
                  refine lv_sipush (v := (-1003)) hx hb dX5_join_160 (by decide) ?_
                  exact w_iret X hr hlk hS (by first | rfl | (simp [mcJoin, mJoI, mw, c_1, hk3, c_4, hk6, hk8, hk10, hpl, hun, c_11, c_12]; done) | (simp [mcJoin, mJoI, mw, c_1, hk3, c_4, hk6, hk8, hk10, hpl, hun, c_11, c_12]; rfl)) (hW.to (by first | rfl | (simp [mcJoin, mJoI, mw, c_1, hk3, c_4, hk6, hk8, hk10, hpl, hun, c_11, c_12]; done)) (by first | rfl | (simp [mcJoin, mJoI, mw, c_1, hk3, c_4, hk6, hk8, hk10, hpl, hun, c_11, c_12]; done))) dX5_join_163
                · skip
                  refine lv_iload_n hx hb dX5_join_151 rfl (lv_at hl 5 rfl) ?_
                  refine lv_if_ge (tgt := 164) hx hb dX5_join_152 (by decide) (fun c_13 => absurd c_13 (by decide)) (fun _ => ?_)
                  refine lv_iload hx hb dX5_join_155 (lv_at hl 6 rfl) ?_
                  refine lv_if_lt (tgt := 164) hx hb dX5_join_157 (by decide) (fun _ => ?_) (fun c_14 => absurd (by decide) c_14)
                  refine lv_aload_n hx hb dX5_join_164 rfl (lv_at hl 2 rfl) ?_
                  refine w_get (v := .int (nI mA)) X hW 13 0 Nat.zero_lt_one rfl rfl inG5 6 (by decide) g504 (congrArg (fun z => some (Value.int z)) hs.1) dX5_join_165 ?_
                  refine lv_bipush (v := 24) hx hb dX5_join_168 (by decide) ?_
                  refine lv_icmp_ne (tgt := 177) hx hb dX5_join_170 (by decide) (fun c_15 => ?_) (fun c_15 => ?_)
                  · skip
                    have h24 : mA < 24 := nI_full (N := 24) (by omega) (by decide) rfl c_15
                    refine lv_aload_n hx hb dX5_join_177 rfl (lv_at hl 2 rfl) ?_
                    refine lv_iconst (v := 1) hx hb dX5_join_178 (by decide) ?_
                    refine w_cV1 X hS (m_X5_fresh l G ad nA nK mA mK E I J 1 hs (by first | assumption | omega)) rfl rfl g607 g4 g604 g606 p29 hd_X5_fresh ⟨Nat.le_of_ble_eq_true rfl, Nat.le_of_ble_eq_true rfl⟩ (k_rec X hW 13 0 Nat.zero_lt_one rfl rfl) hW hl.1 rfl (Nat.le_of_ble_eq_true rfl) dX5_join_179 (Nat.zero_le _) (Nat.zero_le _) (fun H locs hW hS => ?_)
                    obtain ⟨I16, eI16⟩ : ∃ z, z = mFr mA 1 I := ⟨_, rfl⟩
                    rw [← eI16] at hW
                    have hs16 : m_S mA mK E I16 := by rw [eI16]; exact sorry
                    obtain ⟨J16, eJ16⟩ : ∃ z, z = mFrJ mA J := ⟨_, rfl⟩
                    rw [← eJ16] at hW
                    refine lv_istore (lv' := [(7, .int (nI mA)), (6, .int (k_b un)), (5, .int (k_b pl)), (0, .ref (ad 13 0)), (1, .int (nI i3)), (2, .int (nI i6)), (3, .int ((-1))), (4, .int ((-1)))]) hx hb dX5_join_182 hl (by decide) rfl (fun ls hl => ?_)
                    refine lv_aload_n hx hb dX5_join_184 rfl (lv_at hl 3 rfl) ?_
                    refine w_get X hW 13 0 Nat.zero_lt_one rfl rfl inG5 15 (by decide) g513 rfl dX5_join_185 ?_
                    refine lv_iconst (v := 4) hx hb dX5_join_188 (by decide) ?_
                    refine lv_iload hx hb dX5_join_189 (lv_at hl 0 rfl) ?_
                    refine lw_imulN (a := 4) (b := mA) hx hb dX5_join_191 ?_
                    refine lv_iload_n hx hb dX5_join_192 rfl (lv_at hl 4 rfl) ?_
                    refine w_iastN (i := 4 * mA) X hW hS 35 0 Nat.zero_lt_one rfl (by omega) rfl dX5_join_193 (fun H locs hW hS => ?_)
                    obtain ⟨I17, eI17⟩ : ∃ z, z = k_up I16 35 0 (upd (I16 35 0) (4 * mA) (nI i3)) := ⟨_, rfl⟩
                    rw [← eI17] at hW
                    refine lv_aload_n hx hb dX5_join_194 rfl (lv_at hl 3 rfl) ?_
                    refine w_get X hW 13 0 Nat.zero_lt_one rfl rfl inG5 15 (by decide) g513 rfl dX5_join_195 ?_
                    refine lv_iconst (v := 4) hx hb dX5_join_198 (by decide) ?_
                    refine lv_iload hx hb dX5_join_199 (lv_at hl 0 rfl) ?_
                    refine lw_imulN (a := 4) (b := mA) hx hb dX5_join_201 ?_
                    refine lv_iconst (v := 1) hx hb dX5_join_202 (by decide) ?_
                    refine lw_iaddN (a := 4 * mA) (b := 1) hx hb dX5_join_203 ?_
                    refine lv_iload_n hx hb dX5_join_204 rfl (lv_at hl 5 rfl) ?_
                    refine w_iastN (i := 4 * mA + 1) X hW hS 35 0 Nat.zero_lt_one rfl (by omega) rfl dX5_join_205 (fun H locs hW hS => ?_)
                    obtain ⟨I18, eI18⟩ : ∃ z, z = k_up I17 35 0 (upd (I17 35 0) (4 * mA + 1) (nI i6)) := ⟨_, rfl⟩
                    rw [← eI18] at hW
                    refine lv_aload_n hx hb dX5_join_206 rfl (lv_at hl 3 rfl) ?_
                    refine w_get X hW 13 0 Nat.zero_lt_one rfl rfl inG5 15 (by decide) g513 rfl dX5_join_207 ?_
                    refine lv_iconst (v := 4) hx hb dX5_join_210 (by decide) ?_
                    refine lv_iload hx hb dX5_join_211 (lv_at hl 0 rfl) ?_
                    refine lw_imulN (a := 4) (b := mA) hx hb dX5_join_213 ?_
                    refine lv_iconst (v := 2) hx hb dX5_join_214 (by decide) ?_
                    refine lw_iaddN (a := 4 * mA) (b := 2) hx hb dX5_join_215 ?_
                    refine lv_iload_n hx hb dX5_join_216 rfl (lv_at hl 6 rfl) ?_
                    refine w_iastN (i := 4 * mA + 2) X hW hS 35 0 Nat.zero_lt_one rfl (by omega) rfl dX5_join_217 (fun H locs hW hS => ?_)
                    obtain ⟨I19, eI19⟩ : ∃ z, z = k_up I18 35 0 (upd (I18 35 0) (4 * mA + 2) (-1)) := ⟨_, rfl⟩
                    rw [← eI19] at hW
                    refine lv_aload_n hx hb dX5_join_218 rfl (lv_at hl 3 rfl) ?_
                    refine w_get X hW 13 0 Nat.zero_lt_one rfl rfl inG5 15 (by decide) g513 rfl dX5_join_219 ?_
                    refine lv_iconst (v := 4) hx hb dX5_join_222 (by decide) ?_
                    refine lv_iload hx hb dX5_join_223 (lv_at hl 0 rfl) ?_
                    refine lw_imulN (a := 4) (b := mA) hx hb dX5_join_225 ?_
                    refine lv_iconst (v := 3) hx hb dX5_join_226 (by decide) ?_
                    refine lw_iaddN (a := 4 * mA) (b := 3) hx hb dX5_join_227 ?_
                    refine lv_iload hx hb dX5_join_228 (lv_at hl 7 rfl) ?_
                    refine w_iastN (i := 4 * mA + 3) X hW hS 35 0 Nat.zero_lt_one rfl (by omega) rfl dX5_join_230 (fun H locs hW hS => ?_)
                    obtain ⟨I20, eI20⟩ : ∃ z, z = k_up I19 35 0 (upd (I19 35 0) (4 * mA + 3) (-1)) := ⟨_, rfl⟩
                    rw [← eI20] at hW
                    refine lv_iload hx hb dX5_join_231 (lv_at hl 0 rfl) ?_
                    exact w_iret X hr hlk hS (by first | rfl | (simp [mcJoin, mJoI, mw, c_1, hk3, c_4, hk6, hk8, hk10, hpl, hun, c_11, c_12, c_15, eI16, eJ16, eI17, eI18, eI19, eI20]; done) | (subst eI20 eI19 eI18 eI17 eJ16 eI16; simp [mcJoin, mJoI, mw, c_1, hk3, c_4, hk6, hk8, hk10, hpl, hun, c_11, c_12, c_15]; done) | (simp [mcJoin, mJoI, mw, c_1, hk3, c_4, hk6, hk8, hk10, hpl, hun, c_11, c_12, c_15, eI16, eJ16, eI17, eI18, eI19, eI20]; rfl)) (hW.to (by first | rfl | (subst eI20 eI19 eI18 eI17 eJ16 eI16; simp [mcJoin, mJoI, mw, c_1, hk3, c_4, hk6, hk8, hk10, hpl, hun, c_11, c_12, c_15]; done) | (subst eI20 eI19 eI18 eI17 eJ16 eI16; rfl) | (subst eI20 eI19 eI18 eI17 eJ16 eI16; simp [mcJoin, mJoI, mw, c_1, hk3, c_4, hk6, hk8, hk10, hpl, hun, c_11, c_12, c_15]; done) | (subst eI20 eI19 eI18 eI17 eJ16 eI16; simp [mcJoin, mJoI, mw, c_1, hk3, c_4, hk6, hk8, hk10, hpl, hun, c_11, c_12, c_15]; rfl) | (simp [mcJoin, mJoI, mw, c_1, hk3, c_4, hk6, hk8, hk10, hpl, hun, c_11, c_12, c_15, eI16, eJ16, eI17, eI18, eI19, eI20]; done)) (by first | rfl | (subst eI20 eI19 eI18 eI17 eJ16 eI16; simp [mcJoin, mJoI, mw, c_1, hk3, c_4, hk6, hk8, hk10, hpl, hun, c_11, c_12, c_15]; done) | (subst eI20 eI19 eI18 eI17 eJ16 eI16; rfl) | (subst eI20 eI19 eI18 eI17 eJ16 eI16; simp [mcJoin, mJoI, mw, c_1, hk3, c_4, hk6, hk8, hk10, hpl, hun, c_11, c_12, c_15]; done) | (subst eI20 eI19 eI18 eI17 eJ16 eI16; simp [mcJoin, mJoI, mw, c_1, hk3, c_4, hk6, hk8, hk10, hpl, hun, c_11, c_12, c_15]; rfl) | (simp [mcJoin, mJoI, mw, c_1, hk3, c_4, hk6, hk8, hk10, hpl, hun, c_11, c_12, c_15, eI16, eJ16, eI17, eI18, eI19, eI20]; done))) dX5_join_233
                  · skip
                    refine lv_sipush (v := (-1004)) hx hb dX5_join_173 (by decide) ?_
                    exact w_iret X hr hlk hS (by first | rfl | (simp [mcJoin, mJoI, mw, c_1, hk3, c_4, hk6, hk8, hk10, hpl, hun, c_11, c_12, c_15]; done) | (simp [mcJoin, mJoI, mw, c_1, hk3, c_4, hk6, hk8, hk10, hpl, hun, c_11, c_12, c_15]; rfl)) (hW.to (by first | rfl | (simp [mcJoin, mJoI, mw, c_1, hk3, c_4, hk6, hk8, hk10, hpl, hun, c_11, c_12, c_15]; done)) (by first | rfl | (simp [mcJoin, mJoI, mw, c_1, hk3, c_4, hk6, hk8, hk10, hpl, hun, c_11, c_12, c_15]; done))) dX5_join_176
            refine lv_iload_n hx hb dX5_join_97 rfl (lv_at hl 2 rfl) ?_
            refine lv_iload_n hx hb dX5_join_98 rfl (lv_at hl 3 rfl) ?_
            refine lv_icmp_eq (tgt := 138) hx hb dX5_join_99 (by decide) (fun c_21 => ?_) (fun c_21 => ?_)
            · skip
              refine lv_iconst (v := 0) hx hb dX5_join_138 (by decide) ?_
              refine lv_istore (lv' := [(6, .int 0), (5, .int (k_b pl)), (0, .ref (ad 13 0)), (1, .int (nI i3)), (2, .int (nI i6)), (3, .int ((-1))), (4, .int ((-1)))]) hx hb dX5_join_139 hl (by decide) rfl (fun ls hl => ?_)
              exact join141 false (by simp [mUnl, c_1, hk3, c_4, hk6, hk8, hk10, hpl, c_21]) _ _ hW hS ls (lv_sub hl [0, 1, 2, 3, 4, 5, 6] rfl)
            · skip
              refine lv_iload_n hx hb dX5_join_102 rfl (lv_at hl 2 rfl) ?_
              refine lv_iload_n hx hb dX5_join_103 rfl (lv_at hl 4 rfl) ?_
              refine lv_icmp_eq (tgt := 138) hx hb dX5_join_104 (by decide) (fun c_22 => ?_) (fun c_22 => ?_)
              · skip
                refine lv_iconst (v := 0) hx hb dX5_join_138 (by decide) ?_
                refine lv_istore (lv' := [(6, .int 0), (5, .int (k_b pl)), (0, .ref (ad 13 0)), (1, .int (nI i3)), (2, .int (nI i6)), (3, .int ((-1))), (4, .int ((-1)))]) hx hb dX5_join_139 hl (by decide) rfl (fun ls hl => ?_)
                exact join141 false (by simp [mUnl, c_1, hk3, c_4, hk6, hk8, hk10, hpl, c_21, c_22]) _ _ hW hS ls (lv_sub hl [0, 1, 2, 3, 4, 5, 6] rfl)
              · skip
                refine lv_iload_n hx hb dX5_join_107 rfl (lv_at hl 3 rfl) ?_
                refine lv_iload_n hx hb dX5_join_108 rfl (lv_at hl 4 rfl) ?_
                refine lv_icmp_eq (tgt := 138) hx hb dX5_join_109 (by decide) (fun c_23 => ?_) (fun c_23 => ?_)
                · skip
                  refine lv_iconst (v := 0) hx hb dX5_join_138 (by decide) ?_
                  refine lv_istore (lv' := [(6, .int 0), (5, .int (k_b pl)), (0, .ref (ad 13 0)), (1, .int (nI i3)), (2, .int (nI i6)), (3, .int ((-1))), (4, .int ((-1)))]) hx hb dX5_join_139 hl (by decide) rfl (fun ls hl => ?_)
                  exact join141 false (by simp [mUnl, c_1, hk3, c_4, hk6, hk8, hk10, hpl, c_21, c_22, c_23]) _ _ hW hS ls (lv_sub hl [0, 1, 2, 3, 4, 5, 6] rfl)
                · skip
                  refine lv_iload_n hx hb dX5_join_112 rfl (lv_at hl 2 rfl) ?_
                  refine lv_iload hx hb dX5_join_113 (lv_at hl 5 rfl) ?_
                  refine lv_icmp_eq (tgt := 138) hx hb dX5_join_115 (by decide) (fun c_24 => absurd c_24 c_22) (fun _ => ?_)
                  refine lv_iload_n hx hb dX5_join_118 rfl (lv_at hl 3 rfl) ?_
                  refine lv_iload hx hb dX5_join_119 (lv_at hl 5 rfl) ?_
                  refine lv_icmp_eq (tgt := 138) hx hb dX5_join_121 (by decide) (fun c_25 => absurd c_25 c_23) (fun _ => ?_)
                  refine lv_iload_n hx hb dX5_join_124 rfl (lv_at hl 4 rfl) ?_
                  refine lv_iload hx hb dX5_join_125 (lv_at hl 5 rfl) ?_
                  refine lv_icmp_ne (tgt := 134) hx hb dX5_join_127 (by decide) (fun c_26 => absurd (by decide) c_26) (fun _ => ?_)
                  refine lv_iload_n hx hb dX5_join_130 rfl (lv_at hl 4 rfl) ?_
                  refine lv_if_ge (tgt := 138) hx hb dX5_join_131 (by decide) (fun c_27 => absurd c_27 (by decide)) (fun _ => ?_)
                  refine lv_iconst (v := 1) hx hb dX5_join_134 (by decide) ?_
                  refine lv_goto (tgt := 139) hx hb dX5_join_135 (by decide) ?_
                  refine lv_istore (lv' := [(6, .int 1), (5, .int (k_b pl)), (0, .ref (ad 13 0)), (1, .int (nI i3)), (2, .int (nI i6)), (3, .int ((-1))), (4, .int ((-1)))]) hx hb dX5_join_139 hl (by decide) rfl (fun ls hl => ?_)
                  exact join141 true (by simp [mUnl, c_1, hk3, c_4, hk6, hk8, hk10, hpl, c_21, c_22, c_23]) _ _ hW hS ls (lv_sub hl [0, 1, 2, 3, 4, 5, 6] rfl)
          refine lv_aload_n hx hb dX5_join_48 rfl (lv_at hl 0 rfl) ?_
          refine lv_iload_n hx hb dX5_join_49 rfl (lv_at hl 1 rfl) ?_
          refine w_cV1 X hS (m_X5_isPlain l G ad nA nK mA mK E I J i3 hs (by first | assumption | omega)) rfl rfl g619 g4 g616 g618 p31 hd_X5_isPlain ⟨Nat.le_of_ble_eq_true rfl, Nat.le_of_ble_eq_true rfl⟩ (k_rec X hW 13 0 Nat.zero_lt_one rfl rfl) hW hl.1 rfl (Nat.le_of_ble_eq_true rfl) dX5_join_50 (Nat.zero_le _) (Nat.zero_le _) (fun H locs hW hS => ?_)
          refine lb_if_eq (tgt := 94) hx hb dX5_join_53 (by decide) (fun c_28 => ?_) (fun c_28 => ?_)
          · skip
            refine lv_iconst (v := 0) hx hb dX5_join_94 (by decide) ?_
            refine lv_istore (lv' := [(5, .int 0), (0, .ref (ad 13 0)), (1, .int (nI i3)), (2, .int (nI i6)), (3, .int ((-1))), (4, .int ((-1)))]) hx hb dX5_join_95 hl (by decide) rfl (fun ls hl => ?_)
            have join141 : ∀ (un : Bool), (un = mUnl (nI i3) (nI i6) (-1) (-1)) → ∀ (H : Heap) (locs : List Loc), Wd G ad nA nK I J H → va_S (k_A G) s.heap H locs → ∀ ls : Array Slot, lv_has ls 8 [(6, .int (k_b un)), (5, .int 0), (0, .ref (ad 13 0)), (1, .int (nI i3)), (2, .int (nI i6)), (3, .int ((-1))), (4, .int ((-1)))] → W p l e { frames := 2, cells := 0, slots := 0, locals := 46 } s m ([.ref (ad 13 0), .int (nI i3), .int (nI i6), .int (-1), .int (-1)] : List Value).toArray below meth c H locs 0 0 (MQ below (k_Q G (some (.int ((mcJoin mA (nI i3) (nI i6) (-1) (-1) (I, J)).1))) (Wd G ad nA nK ((mcJoin mA (nI i3) (nI i6) (-1) (-1) (I, J)).2.1) ((mcJoin mA (nI i3) (nI i6) (-1) (-1) (I, J)).2.2))) ([.ref (ad 13 0), .int (nI i3), .int (nI i6), .int (-1), .int (-1)] : List Value).toArray s 0 0 (k_A G)) (F0 m 141 ls []) := by
              intro un hun H locs hW hS ls hl
              refine lv_iload hx hb dX5_join_141 (lv_at hl 1 rfl) ?_
              refine lv_if_eq (tgt := 160) hx hb dX5_join_143 (by decide) (fun _ => ?_) (fun c_29 => absurd (by decide) c_29)
              refine lv_sipush (v := (-1003)) hx hb dX5_join_160 (by decide) ?_
              exact w_iret X hr hlk hS (by first | rfl | (simp [mcJoin, mJoI, mw, c_1, hk3, c_4, hk6, hk8, hk10, c_28, hun]; done) | (simp [mcJoin, mJoI, mw, c_1, hk3, c_4, hk6, hk8, hk10, c_28, hun]; rfl)) (hW.to (by first | rfl | (simp [mcJoin, mJoI, mw, c_1, hk3, c_4, hk6, hk8, hk10, c_28, hun]; done)) (by first | rfl | (simp [mcJoin, mJoI, mw, c_1, hk3, c_4, hk6, hk8, hk10, c_28, hun]; done))) dX5_join_163
            exact join97 false (by simp [mPlX, c_1, hk3, c_4, hk6, hk8, hk10, c_28]) _ _ hW hS ls (lv_sub hl [0, 1, 2, 3, 4, 5] rfl)
          · skip
            refine lv_aload_n hx hb dX5_join_56 rfl (lv_at hl 0 rfl) ?_
            refine lv_iload_n hx hb dX5_join_57 rfl (lv_at hl 2 rfl) ?_
            refine w_cV1 X hS (m_X5_isPlain l G ad nA nK mA mK E I J i6 hs (by first | assumption | omega)) rfl rfl g619 g4 g616 g618 p31 hd_X5_isPlain ⟨Nat.le_of_ble_eq_true rfl, Nat.le_of_ble_eq_true rfl⟩ (k_rec X hW 13 0 Nat.zero_lt_one rfl rfl) hW hl.1 rfl (Nat.le_of_ble_eq_true rfl) dX5_join_58 (Nat.zero_le _) (Nat.zero_le _) (fun H locs hW hS => ?_)
            refine lb_if_eq (tgt := 94) hx hb dX5_join_61 (by decide) (fun c_30 => ?_) (fun c_30 => ?_)
            · skip
              refine lv_iconst (v := 0) hx hb dX5_join_94 (by decide) ?_
              refine lv_istore (lv' := [(5, .int 0), (0, .ref (ad 13 0)), (1, .int (nI i3)), (2, .int (nI i6)), (3, .int ((-1))), (4, .int ((-1)))]) hx hb dX5_join_95 hl (by decide) rfl (fun ls hl => ?_)
              have join141 : ∀ (un : Bool), (un = mUnl (nI i3) (nI i6) (-1) (-1)) → ∀ (H : Heap) (locs : List Loc), Wd G ad nA nK I J H → va_S (k_A G) s.heap H locs → ∀ ls : Array Slot, lv_has ls 8 [(6, .int (k_b un)), (5, .int 0), (0, .ref (ad 13 0)), (1, .int (nI i3)), (2, .int (nI i6)), (3, .int ((-1))), (4, .int ((-1)))] → W p l e { frames := 2, cells := 0, slots := 0, locals := 46 } s m ([.ref (ad 13 0), .int (nI i3), .int (nI i6), .int (-1), .int (-1)] : List Value).toArray below meth c H locs 0 0 (MQ below (k_Q G (some (.int ((mcJoin mA (nI i3) (nI i6) (-1) (-1) (I, J)).1))) (Wd G ad nA nK ((mcJoin mA (nI i3) (nI i6) (-1) (-1) (I, J)).2.1) ((mcJoin mA (nI i3) (nI i6) (-1) (-1) (I, J)).2.2))) ([.ref (ad 13 0), .int (nI i3), .int (nI i6), .int (-1), .int (-1)] : List Value).toArray s 0 0 (k_A G)) (F0 m 141 ls []) := by
                intro un hun H locs hW hS ls hl
                refine lv_iload hx hb dX5_join_141 (lv_at hl 1 rfl) ?_
                refine lv_if_eq (tgt := 160) hx hb dX5_join_143 (by decide) (fun _ => ?_) (fun c_31 => absurd (by decide) c_31)
                refine lv_sipush (v := (-1003)) hx hb dX5_join_160 (by decide) ?_
                exact w_iret X hr hlk hS (by first | rfl | (simp [mcJoin, mJoI, mw, c_1, hk3, c_4, hk6, hk8, hk10, c_28, c_30, hun]; done) | (simp [mcJoin, mJoI, mw, c_1, hk3, c_4, hk6, hk8, hk10, c_28, c_30, hun]; rfl)) (hW.to (by first | rfl | (simp [mcJoin, mJoI, mw, c_1, hk3, c_4, hk6, hk8, hk10, c_28, c_30, hun]; done)) (by first | rfl | (simp [mcJoin, mJoI, mw, c_1, hk3, c_4, hk6, hk8, hk10, c_28, c_30, hun]; done))) dX5_join_163
              exact join97 false (by simp [mPlX, c_1, hk3, c_4, hk6, hk8, hk10, c_28, c_30]) _ _ hW hS ls (lv_sub hl [0, 1, 2, 3, 4, 5] rfl)
            · skip
              refine lv_iload_n hx hb dX5_join_64 rfl (lv_at hl 3 rfl) ?_
              refine lv_if_lt (tgt := 76) hx hb dX5_join_65 (by decide) (fun _ => ?_) (fun c_32 => absurd (by decide) c_32)
              refine lv_iload hx hb dX5_join_76 (lv_at hl 4 rfl) ?_
              refine lv_if_lt (tgt := 90) hx hb dX5_join_78 (by decide) (fun _ => ?_) (fun c_33 => absurd (by decide) c_33)
              refine lv_iconst (v := 1) hx hb dX5_join_90 (by decide) ?_
              refine lv_goto (tgt := 95) hx hb dX5_join_91 (by decide) ?_
              refine lv_istore (lv' := [(5, .int 1), (0, .ref (ad 13 0)), (1, .int (nI i3)), (2, .int (nI i6)), (3, .int ((-1))), (4, .int ((-1)))]) hx hb dX5_join_95 hl (by decide) rfl (fun ls hl => ?_)
              have join141 : ∀ (un : Bool), (un = mUnl (nI i3) (nI i6) (-1) (-1)) → ∀ (H : Heap) (locs : List Loc), Wd G ad nA nK I J H → va_S (k_A G) s.heap H locs → ∀ ls : Array Slot, lv_has ls 8 [(6, .int (k_b un)), (5, .int 1), (0, .ref (ad 13 0)), (1, .int (nI i3)), (2, .int (nI i6)), (3, .int ((-1))), (4, .int ((-1)))] → W p l e { frames := 2, cells := 0, slots := 0, locals := 46 } s m ([.ref (ad 13 0), .int (nI i3), .int (nI i6), .int (-1), .int (-1)] : List Value).toArray below meth c H locs 0 0 (MQ below (k_Q G (some (.int ((mcJoin mA (nI i3) (nI i6) (-1) (-1) (I, J)).1))) (Wd G ad nA nK ((mcJoin mA (nI i3) (nI i6) (-1) (-1) (I, J)).2.1) ((mcJoin mA (nI i3) (nI i6) (-1) (-1) (I, J)).2.2))) ([.ref (ad 13 0), .int (nI i3), .int (nI i6), .int (-1), .int (-1)] : List Value).toArray s 0 0 (k_A G)) (F0 m 141 ls []) := by
                intro un hun H locs hW hS ls hl
                refine lv_iload hx hb dX5_join_141 (lv_at hl 1 rfl) ?_
                refine lv_if_eq (tgt := 160) hx hb dX5_join_143 (by decide) (fun c_34 => absurd c_34 (by decide)) (fun _ => ?_)
                refine lv_iload hx hb dX5_join_146 (lv_at hl 0 rfl) ?_
                refine lb_if_eq (tgt := 160) hx hb dX5_join_148 (by decide) (fun c_35 => ?_) (fun c_35 => ?_)
                · skip
                  refine lv_sipush (v := (-1003)) hx hb dX5_join_160 (by decide) ?_
                  exact w_iret X hr hlk hS (by first | rfl | (simp [mcJoin, mJoI, mw, c_1, hk3, c_4, hk6, hk8, hk10, c_28, c_30, hun, c_35]; done) | (simp [mcJoin, mJoI, mw, c_1, hk3, c_4, hk6, hk8, hk10, c_28, c_30, hun, c_35]; rfl)) (hW.to (by first | rfl | (simp [mcJoin, mJoI, mw, c_1, hk3, c_4, hk6, hk8, hk10, c_28, c_30, hun, c_35]; done)) (by first | rfl | (simp [mcJoin, mJoI, mw, c_1, hk3, c_4, hk6, hk8, hk10, c_28, c_30, hun, c_35]; done))) dX5_join_163
                · skip
                  refine lv_iload_n hx hb dX5_join_151 rfl (lv_at hl 5 rfl) ?_
                  refine lv_if_ge (tgt := 164) hx hb dX5_join_152 (by decide) (fun c_36 => absurd c_36 (by decide)) (fun _ => ?_)
                  refine lv_iload hx hb dX5_join_155 (lv_at hl 6 rfl) ?_
                  refine lv_if_lt (tgt := 164) hx hb dX5_join_157 (by decide) (fun _ => ?_) (fun c_37 => absurd (by decide) c_37)
                  refine lv_aload_n hx hb dX5_join_164 rfl (lv_at hl 2 rfl) ?_
                  refine w_get (v := .int (nI mA)) X hW 13 0 Nat.zero_lt_one rfl rfl inG5 6 (by decide) g504 (congrArg (fun z => some (Value.int z)) hs.1) dX5_join_165 ?_
                  refine lv_bipush (v := 24) hx hb dX5_join_168 (by decide) ?_
                  refine lv_icmp_ne (tgt := 177) hx hb dX5_join_170 (by decide) (fun c_38 => ?_) (fun c_38 => ?_)
                  · skip
                    have h24 : mA < 24 := nI_full (N := 24) (by omega) (by decide) rfl c_38
                    refine lv_aload_n hx hb dX5_join_177 rfl (lv_at hl 2 rfl) ?_
                    refine lv_iconst (v := 1) hx hb dX5_join_178 (by decide) ?_
                    refine w_cV1 X hS (m_X5_fresh l G ad nA nK mA mK E I J 1 hs (by first | assumption | omega)) rfl rfl g607 g4 g604 g606 p29 hd_X5_fresh ⟨Nat.le_of_ble_eq_true rfl, Nat.le_of_ble_eq_true rfl⟩ (k_rec X hW 13 0 Nat.zero_lt_one rfl rfl) hW hl.1 rfl (Nat.le_of_ble_eq_true rfl) dX5_join_179 (Nat.zero_le _) (Nat.zero_le _) (fun H locs hW hS => ?_)
                    obtain ⟨I39, eI39⟩ : ∃ z, z = mFr mA 1 I := ⟨_, rfl⟩
                    rw [← eI39] at hW
                    have hs39 : m_S mA mK E I39 := by rw [eI39]; exact sorry
                    obtain ⟨J39, eJ39⟩ : ∃ z, z = mFrJ mA J := ⟨_, rfl⟩
                    rw [← eJ39] at hW
                    refine lv_istore (lv' := [(7, .int (nI mA)), (6, .int (k_b un)), (5, .int 1), (0, .ref (ad 13 0)), (1, .int (nI i3)), (2, .int (nI i6)), (3, .int ((-1))), (4, .int ((-1)))]) hx hb dX5_join_182 hl (by decide) rfl (fun ls hl => ?_)
                    refine lv_aload_n hx hb dX5_join_184 rfl (lv_at hl 3 rfl) ?_
                    refine w_get X hW 13 0 Nat.zero_lt_one rfl rfl inG5 15 (by decide) g513 rfl dX5_join_185 ?_
                    refine lv_iconst (v := 4) hx hb dX5_join_188 (by decide) ?_
                    refine lv_iload hx hb dX5_join_189 (lv_at hl 0 rfl) ?_
                    refine lw_imulN (a := 4) (b := mA) hx hb dX5_join_191 ?_
                    refine lv_iload_n hx hb dX5_join_192 rfl (lv_at hl 4 rfl) ?_
                    refine w_iastN (i := 4 * mA) X hW hS 35 0 Nat.zero_lt_one rfl (by omega) rfl dX5_join_193 (fun H locs hW hS => ?_)
                    obtain ⟨I40, eI40⟩ : ∃ z, z = k_up I39 35 0 (upd (I39 35 0) (4 * mA) (nI i3)) := ⟨_, rfl⟩
                    rw [← eI40] at hW
                    refine lv_aload_n hx hb dX5_join_194 rfl (lv_at hl 3 rfl) ?_
                    refine w_get X hW 13 0 Nat.zero_lt_one rfl rfl inG5 15 (by decide) g513 rfl dX5_join_195 ?_
                    refine lv_iconst (v := 4) hx hb dX5_join_198 (by decide) ?_
                    refine lv_iload hx hb dX5_join_199 (lv_at hl 0 rfl) ?_
                    refine lw_imulN (a := 4) (b := mA) hx hb dX5_join_201 ?_
                    refine lv_iconst (v := 1) hx hb dX5_join_202 (by decide) ?_
                    refine lw_iaddN (a := 4 * mA) (b := 1) hx hb dX5_join_203 ?_
                    refine lv_iload_n hx hb dX5_join_204 rfl (lv_at hl 5 rfl) ?_
                    refine w_iastN (i := 4 * mA + 1) X hW hS 35 0 Nat.zero_lt_one rfl (by omega) rfl dX5_join_205 (fun H locs hW hS => ?_)
                    obtain ⟨I41, eI41⟩ : ∃ z, z = k_up I40 35 0 (upd (I40 35 0) (4 * mA + 1) (nI i6)) := ⟨_, rfl⟩
                    rw [← eI41] at hW
                    refine lv_aload_n hx hb dX5_join_206 rfl (lv_at hl 3 rfl) ?_
                    refine w_get X hW 13 0 Nat.zero_lt_one rfl rfl inG5 15 (by decide) g513 rfl dX5_join_207 ?_
                    refine lv_iconst (v := 4) hx hb dX5_join_210 (by decide) ?_
                    refine lv_iload hx hb dX5_join_211 (lv_at hl 0 rfl) ?_
                    refine lw_imulN (a := 4) (b := mA) hx hb dX5_join_213 ?_
                    refine lv_iconst (v := 2) hx hb dX5_join_214 (by decide) ?_
                    refine lw_iaddN (a := 4 * mA) (b := 2) hx hb dX5_join_215 ?_
                    refine lv_iload_n hx hb dX5_join_216 rfl (lv_at hl 6 rfl) ?_
                    refine w_iastN (i := 4 * mA + 2) X hW hS 35 0 Nat.zero_lt_one rfl (by omega) rfl dX5_join_217 (fun H locs hW hS => ?_)
                    obtain ⟨I42, eI42⟩ : ∃ z, z = k_up I41 35 0 (upd (I41 35 0) (4 * mA + 2) (-1)) := ⟨_, rfl⟩
                    rw [← eI42] at hW
                    refine lv_aload_n hx hb dX5_join_218 rfl (lv_at hl 3 rfl) ?_
                    refine w_get X hW 13 0 Nat.zero_lt_one rfl rfl inG5 15 (by decide) g513 rfl dX5_join_219 ?_
                    refine lv_iconst (v := 4) hx hb dX5_join_222 (by decide) ?_
                    refine lv_iload hx hb dX5_join_223 (lv_at hl 0 rfl) ?_
                    refine lw_imulN (a := 4) (b := mA) hx hb dX5_join_225 ?_
                    refine lv_iconst (v := 3) hx hb dX5_join_226 (by decide) ?_
                    refine lw_iaddN (a := 4 * mA) (b := 3) hx hb dX5_join_227 ?_
                    refine lv_iload hx hb dX5_join_228 (lv_at hl 7 rfl) ?_
                    refine w_iastN (i := 4 * mA + 3) X hW hS 35 0 Nat.zero_lt_one rfl (by omega) rfl dX5_join_230 (fun H locs hW hS => ?_)
                    obtain ⟨I43, eI43⟩ : ∃ z, z = k_up I42 35 0 (upd (I42 35 0) (4 * mA + 3) (-1)) := ⟨_, rfl⟩
                    rw [← eI43] at hW
                    refine lv_iload hx hb dX5_join_231 (lv_at hl 0 rfl) ?_
                    exact w_iret X hr hlk hS (by first | rfl | (simp [mcJoin, mJoI, mw, c_1, hk3, c_4, hk6, hk8, hk10, c_28, c_30, hun, c_35, c_38, eI39, eJ39, eI40, eI41, eI42, eI43]; done) | (subst eI43 eI42 eI41 eI40 eJ39 eI39; simp [mcJoin, mJoI, mw, c_1, hk3, c_4, hk6, hk8, hk10, c_28, c_30, hun, c_35, c_38]; done) | (simp [mcJoin, mJoI, mw, c_1, hk3, c_4, hk6, hk8, hk10, c_28, c_30, hun, c_35, c_38, eI39, eJ39, eI40, eI41, eI42, eI43]; rfl)) (hW.to (by first | rfl | (subst eI43 eI42 eI41 eI40 eJ39 eI39; simp [mcJoin, mJoI, mw, c_1, hk3, c_4, hk6, hk8, hk10, c_28, c_30, hun, c_35, c_38]; done) | (subst eI43 eI42 eI41 eI40 eJ39 eI39; rfl) | (subst eI43 eI42 eI41 eI40 eJ39 eI39; simp [mcJoin, mJoI, mw, c_1, hk3, c_4, hk6, hk8, hk10, c_28, c_30, hun, c_35, c_38]; done) | (subst eI43 eI42 eI41 eI40 eJ39 eI39; simp [mcJoin, mJoI, mw, c_1, hk3, c_4, hk6, hk8, hk10, c_28, c_30, hun, c_35, c_38]; rfl) | (simp [mcJoin, mJoI, mw, c_1, hk3, c_4, hk6, hk8, hk10, c_28, c_30, hun, c_35, c_38, eI39, eJ39, eI40, eI41, eI42, eI43]; done)) (by first | rfl | (subst eI43 eI42 eI41 eI40 eJ39 eI39; simp [mcJoin, mJoI, mw, c_1, hk3, c_4, hk6, hk8, hk10, c_28, c_30, hun, c_35, c_38]; done) | (subst eI43 eI42 eI41 eI40 eJ39 eI39; rfl) | (subst eI43 eI42 eI41 eI40 eJ39 eI39; simp [mcJoin, mJoI, mw, c_1, hk3, c_4, hk6, hk8, hk10, c_28, c_30, hun, c_35, c_38]; done) | (subst eI43 eI42 eI41 eI40 eJ39 eI39; simp [mcJoin, mJoI, mw, c_1, hk3, c_4, hk6, hk8, hk10, c_28, c_30, hun, c_35, c_38]; rfl) | (simp [mcJoin, mJoI, mw, c_1, hk3, c_4, hk6, hk8, hk10, c_28, c_30, hun, c_35, c_38, eI39, eJ39, eI40, eI41, eI42, eI43]; done))) dX5_join_233
                  · skip
                    refine lv_sipush (v := (-1004)) hx hb dX5_join_173 (by decide) ?_
                    exact w_iret X hr hlk hS (by first | rfl | (simp [mcJoin, mJoI, mw, c_1, hk3, c_4, hk6, hk8, hk10, c_28, c_30, hun, c_35, c_38]; done) | (simp [mcJoin, mJoI, mw, c_1, hk3, c_4, hk6, hk8, hk10, c_28, c_30, hun, c_35, c_38]; rfl)) (hW.to (by first | rfl | (simp [mcJoin, mJoI, mw, c_1, hk3, c_4, hk6, hk8, hk10, c_28, c_30, hun, c_35, c_38]; done)) (by first | rfl | (simp [mcJoin, mJoI, mw, c_1, hk3, c_4, hk6, hk8, hk10, c_28, c_30, hun, c_35, c_38]; done))) dX5_join_176
              exact join97 true (by simp [mPlX, c_1, hk3, c_4, hk6, hk8, hk10, c_28, c_30]) _ _ hW hS ls (lv_sub hl [0, 1, 2, 3, 4, 5] rfl)
        · skip
          refine lv_aload_n hx hb dX5_join_35 rfl (lv_at hl 0 rfl) ?_
          refine lv_iload hx hb dX5_join_36 (lv_at hl 4 rfl) ?_
          refine w_cV1 X hS (m_X5_is l G ad nA nK mA mK E I J d9 hs) rfl rfl g615 g4 g612 g614 p30 hd_X5_is ⟨Nat.le_of_ble_eq_true rfl, Nat.le_of_ble_eq_true rfl⟩ (k_rec X hW 13 0 Nat.zero_lt_one rfl rfl) hW hl.1 rfl (Nat.le_of_ble_eq_true rfl) dX5_join_38 (Nat.zero_le _) (Nat.zero_le _) (fun H locs hW hS => ?_)
          refine lb_if_ne (tgt := 48) hx hb dX5_join_41 (by decide) (fun c_44 => ?_) (fun c_44 => ?_)
          · skip
            obtain ⟨i45, hi45, rfl⟩ := mIs_nat (by omega) c_44
            have hk45 : kAns mA (nI i45) = some i45 := kAns_lt hi45 (by omega)
            have hl : lv_has ls 8 [(0, .ref (ad 13 0)), (1, .int (nI i3)), (2, .int (nI i6)), (3, .int ((-1))), (4, .int (nI i45))] := hl
            have join97 : ∀ (pl : Bool), (pl = (mPlX mA I (nI i3) && (mPlX mA I (nI i6) && (mPlX mA I (-1) && mPlX mA I (nI i45))))) → ∀ (H : Heap) (locs : List Loc), Wd G ad nA nK I J H → va_S (k_A G) s.heap H locs → ∀ ls : Array Slot, lv_has ls 8 [(5, .int (k_b pl)), (0, .ref (ad 13 0)), (1, .int (nI i3)), (2, .int (nI i6)), (3, .int ((-1))), (4, .int (nI i45))] → W p l e { frames := 2, cells := 0, slots := 0, locals := 46 } s m ([.ref (ad 13 0), .int (nI i3), .int (nI i6), .int (-1), .int (nI i45)] : List Value).toArray below meth c H locs 0 0 (MQ below (k_Q G (some (.int ((mcJoin mA (nI i3) (nI i6) (-1) (nI i45) (I, J)).1))) (Wd G ad nA nK ((mcJoin mA (nI i3) (nI i6) (-1) (nI i45) (I, J)).2.1) ((mcJoin mA (nI i3) (nI i6) (-1) (nI i45) (I, J)).2.2))) ([.ref (ad 13 0), .int (nI i3), .int (nI i6), .int (-1), .int (nI i45)] : List Value).toArray s 0 0 (k_A G)) (F0 m 97 ls []) := by
              intro pl hpl H locs hW hS ls hl
              have join141 : ∀ (un : Bool), (un = mUnl (nI i3) (nI i6) (-1) (nI i45)) → ∀ (H : Heap) (locs : List Loc), Wd G ad nA nK I J H → va_S (k_A G) s.heap H locs → ∀ ls : Array Slot, lv_has ls 8 [(6, .int (k_b un)), (5, .int (k_b pl)), (0, .ref (ad 13 0)), (1, .int (nI i3)), (2, .int (nI i6)), (3, .int ((-1))), (4, .int (nI i45))] → W p l e { frames := 2, cells := 0, slots := 0, locals := 46 } s m ([.ref (ad 13 0), .int (nI i3), .int (nI i6), .int (-1), .int (nI i45)] : List Value).toArray below meth c H locs 0 0 (MQ below (k_Q G (some (.int ((mcJoin mA (nI i3) (nI i6) (-1) (nI i45) (I, J)).1))) (Wd G ad nA nK ((mcJoin mA (nI i3) (nI i6) (-1) (nI i45) (I, J)).2.1) ((mcJoin mA (nI i3) (nI i6) (-1) (nI i45) (I, J)).2.2))) ([.ref (ad 13 0), .int (nI i3), .int (nI i6), .int (-1), .int (nI i45)] : List Value).toArray s 0 0 (k_A G)) (F0 m 141 ls []) := by
                intro un hun H locs hW hS ls hl
                refine lv_iload hx hb dX5_join_141 (lv_at hl 1 rfl) ?_
                refine lb_if_eq (tgt := 160) hx hb dX5_join_143 (by decide) (fun c_46 => ?_) (fun c_46 => ?_)
                · skip
                  refine lv_sipush (v := (-1003)) hx hb dX5_join_160 (by decide) ?_
                  exact w_iret X hr hlk hS (by first | rfl | (simp [mcJoin, mJoI, mw, c_1, hk3, c_4, hk6, hk8, c_9, c_44, hk45, hpl, hun, c_46]; done) | (simp [mcJoin, mJoI, mw, c_1, hk3, c_4, hk6, hk8, c_9, c_44, hk45, hpl, hun, c_46]; rfl)) (hW.to (by first | rfl | (simp [mcJoin, mJoI, mw, c_1, hk3, c_4, hk6, hk8, c_9, c_44, hk45, hpl, hun, c_46]; done)) (by first | rfl | (simp [mcJoin, mJoI, mw, c_1, hk3, c_4, hk6, hk8, c_9, c_44, hk45, hpl, hun, c_46]; done))) dX5_join_163
                · skip
                  refine lv_iload hx hb dX5_join_146 (lv_at hl 0 rfl) ?_
                  refine lb_if_eq (tgt := 160) hx hb dX5_join_148 (by decide) (fun c_47 => ?_) (fun c_47 => ?_)
                  · skip
                    refine lv_sipush (v := (-1003)) hx hb dX5_join_160 (by decide) ?_
                    exact w_iret X hr hlk hS (by first | rfl | (simp [mcJoin, mJoI, mw, c_1, hk3, c_4, hk6, hk8, c_9, c_44, hk45, hpl, hun, c_46, c_47]; done) | (simp [mcJoin, mJoI, mw, c_1, hk3, c_4, hk6, hk8, c_9, c_44, hk45, hpl, hun, c_46, c_47]; rfl)) (hW.to (by first | rfl | (simp [mcJoin, mJoI, mw, c_1, hk3, c_4, hk6, hk8, c_9, c_44, hk45, hpl, hun, c_46, c_47]; done)) (by first | rfl | (simp [mcJoin, mJoI, mw, c_1, hk3, c_4, hk6, hk8, c_9, c_44, hk45, hpl, hun, c_46, c_47]; done))) dX5_join_163
                  · skip
                    refine lv_iload_n hx hb dX5_join_151 rfl (lv_at hl 5 rfl) ?_
                    refine lv_if_ge (tgt := 164) hx hb dX5_join_152 (by decide) (fun c_48 => absurd c_48 (by decide)) (fun _ => ?_)
                    refine lv_iload hx hb dX5_join_155 (lv_at hl 6 rfl) ?_
                    refine lv_if_lt (tgt := 164) hx hb dX5_join_157 (by decide) (fun c_49 => absurd c_49 (nI_pos (by omega))) (fun _ => ?_)
                    refine lv_sipush (v := (-1003)) hx hb dX5_join_160 (by decide) ?_
                    exact w_iret X hr hlk hS (by first | rfl | (simp [mcJoin, mJoI, mw, c_1, hk3, c_4, hk6, hk8, c_9, c_44, hk45, hpl, hun, c_46, c_47]; done) | (simp [mcJoin, mJoI, mw, c_1, hk3, c_4, hk6, hk8, c_9, c_44, hk45, hpl, hun, c_46, c_47]; rfl)) (hW.to (by first | rfl | (simp [mcJoin, mJoI, mw, c_1, hk3, c_4, hk6, hk8, c_9, c_44, hk45, hpl, hun, c_46, c_47]; done)) (by first | rfl | (simp [mcJoin, mJoI, mw, c_1, hk3, c_4, hk6, hk8, c_9, c_44, hk45, hpl, hun, c_46, c_47]; done))) dX5_join_163
              refine lv_iload_n hx hb dX5_join_97 rfl (lv_at hl 2 rfl) ?_
              refine lv_iload_n hx hb dX5_join_98 rfl (lv_at hl 3 rfl) ?_
              refine lv_icmp_eq (tgt := 138) hx hb dX5_join_99 (by decide) (fun c_50 => ?_) (fun c_50 => ?_)
              · skip
                refine lv_iconst (v := 0) hx hb dX5_join_138 (by decide) ?_
                refine lv_istore (lv' := [(6, .int 0), (5, .int (k_b pl)), (0, .ref (ad 13 0)), (1, .int (nI i3)), (2, .int (nI i6)), (3, .int ((-1))), (4, .int (nI i45))]) hx hb dX5_join_139 hl (by decide) rfl (fun ls hl => ?_)
                exact join141 false (by simp [mUnl, c_1, hk3, c_4, hk6, hk8, c_9, c_44, hk45, hpl, c_50]) _ _ hW hS ls (lv_sub hl [0, 1, 2, 3, 4, 5, 6] rfl)
              · skip
                refine lv_iload_n hx hb dX5_join_102 rfl (lv_at hl 2 rfl) ?_
                refine lv_iload_n hx hb dX5_join_103 rfl (lv_at hl 4 rfl) ?_
                refine lv_icmp_eq (tgt := 138) hx hb dX5_join_104 (by decide) (fun c_51 => ?_) (fun c_51 => ?_)
                · skip
                  refine lv_iconst (v := 0) hx hb dX5_join_138 (by decide) ?_
                  refine lv_istore (lv' := [(6, .int 0), (5, .int (k_b pl)), (0, .ref (ad 13 0)), (1, .int (nI i3)), (2, .int (nI i6)), (3, .int ((-1))), (4, .int (nI i45))]) hx hb dX5_join_139 hl (by decide) rfl (fun ls hl => ?_)
                  exact join141 false (by simp [mUnl, c_1, hk3, c_4, hk6, hk8, c_9, c_44, hk45, hpl, c_50, c_51]) _ _ hW hS ls (lv_sub hl [0, 1, 2, 3, 4, 5, 6] rfl)
                · skip
                  refine lv_iload_n hx hb dX5_join_107 rfl (lv_at hl 3 rfl) ?_
                  refine lv_iload_n hx hb dX5_join_108 rfl (lv_at hl 4 rfl) ?_
                  refine lv_icmp_eq (tgt := 138) hx hb dX5_join_109 (by decide) (fun c_52 => ?_) (fun c_52 => ?_)
                  · skip
                    refine lv_iconst (v := 0) hx hb dX5_join_138 (by decide) ?_
                    refine lv_istore (lv' := [(6, .int 0), (5, .int (k_b pl)), (0, .ref (ad 13 0)), (1, .int (nI i3)), (2, .int (nI i6)), (3, .int ((-1))), (4, .int (nI i45))]) hx hb dX5_join_139 hl (by decide) rfl (fun ls hl => ?_)
                    exact join141 false (by simp [mUnl, c_1, hk3, c_4, hk6, hk8, c_9, c_44, hk45, hpl, c_50, c_51, c_52]) _ _ hW hS ls (lv_sub hl [0, 1, 2, 3, 4, 5, 6] rfl)
                  · skip
                    refine lv_iload_n hx hb dX5_join_112 rfl (lv_at hl 2 rfl) ?_
                    refine lv_iload hx hb dX5_join_113 (lv_at hl 5 rfl) ?_
                    refine lv_icmp_eq (tgt := 138) hx hb dX5_join_115 (by decide) (fun c_53 => ?_) (fun c_53 => ?_)
                    · skip
                      refine lv_iconst (v := 0) hx hb dX5_join_138 (by decide) ?_
                      refine lv_istore (lv' := [(6, .int 0), (5, .int (k_b pl)), (0, .ref (ad 13 0)), (1, .int (nI i3)), (2, .int (nI i6)), (3, .int ((-1))), (4, .int (nI i45))]) hx hb dX5_join_139 hl (by decide) rfl (fun ls hl => ?_)
                      exact join141 false (by simp [mUnl, c_1, hk3, c_4, hk6, hk8, c_9, c_44, hk45, hpl, c_50, c_51, c_52, c_53]) _ _ hW hS ls (lv_sub hl [0, 1, 2, 3, 4, 5, 6] rfl)
                    · skip
                      refine lv_iload_n hx hb dX5_join_118 rfl (lv_at hl 3 rfl) ?_
                      refine lv_iload hx hb dX5_join_119 (lv_at hl 5 rfl) ?_
                      refine lv_icmp_eq (tgt := 138) hx hb dX5_join_121 (by decide) (fun c_54 => ?_) (fun c_54 => ?_)
                      · skip
                        refine lv_iconst (v := 0) hx hb dX5_join_138 (by decide) ?_
                        refine lv_istore (lv' := [(6, .int 0), (5, .int (k_b pl)), (0, .ref (ad 13 0)), (1, .int (nI i3)), (2, .int (nI i6)), (3, .int ((-1))), (4, .int (nI i45))]) hx hb dX5_join_139 hl (by decide) rfl (fun ls hl => ?_)
                        exact join141 false (by simp [mUnl, c_1, hk3, c_4, hk6, hk8, c_9, c_44, hk45, hpl, c_50, c_51, c_52, c_53, c_54]) _ _ hW hS ls (lv_sub hl [0, 1, 2, 3, 4, 5, 6] rfl)
                      · skip
                        refine lv_iload_n hx hb dX5_join_124 rfl (lv_at hl 4 rfl) ?_
                        refine lv_iload hx hb dX5_join_125 (lv_at hl 5 rfl) ?_
                        refine lv_icmp_ne (tgt := 134) hx hb dX5_join_127 (by decide) (fun c_55 => ?_) (fun c_55 => ?_)
                        · skip
                          refine lv_iconst (v := 1) hx hb dX5_join_134 (by decide) ?_
                          refine lv_goto (tgt := 139) hx hb dX5_join_135 (by decide) ?_
                          refine lv_istore (lv' := [(6, .int 1), (5, .int (k_b pl)), (0, .ref (ad 13 0)), (1, .int (nI i3)), (2, .int (nI i6)), (3, .int ((-1))), (4, .int (nI i45))]) hx hb dX5_join_139 hl (by decide) rfl (fun ls hl => ?_)
                          exact join141 true (by simp [mUnl, c_1, hk3, c_4, hk6, hk8, c_9, c_44, hk45, hpl, c_50, c_51, c_52, c_53, c_54, c_55]) _ _ hW hS ls (lv_sub hl [0, 1, 2, 3, 4, 5, 6] rfl)
                        · skip
                          refine lv_iload_n hx hb dX5_join_130 rfl (lv_at hl 4 rfl) ?_
                          refine lv_if_ge (tgt := 138) hx hb dX5_join_131 (by decide) (fun c_56 => absurd c_56 (by decide)) (fun _ => ?_)
                          refine lv_iconst (v := 1) hx hb dX5_join_134 (by decide) ?_
                          refine lv_goto (tgt := 139) hx hb dX5_join_135 (by decide) ?_
                          refine lv_istore (lv' := [(6, .int 1), (5, .int (k_b pl)), (0, .ref (ad 13 0)), (1, .int (nI i3)), (2, .int (nI i6)), (3, .int ((-1))), (4, .int (nI i45))]) hx hb dX5_join_139 hl (by decide) rfl (fun ls hl => ?_)
                          exact join141 true (by simp [mUnl, c_1, hk3, c_4, hk6, hk8, c_9, c_44, hk45, hpl, c_50, c_51, c_52, c_53, c_54, c_55]) _ _ hW hS ls (lv_sub hl [0, 1, 2, 3, 4, 5, 6] rfl)
            refine lv_aload_n hx hb dX5_join_48 rfl (lv_at hl 0 rfl) ?_
            refine lv_iload_n hx hb dX5_join_49 rfl (lv_at hl 1 rfl) ?_
            refine w_cV1 X hS (m_X5_isPlain l G ad nA nK mA mK E I J i3 hs (by first | assumption | omega)) rfl rfl g619 g4 g616 g618 p31 hd_X5_isPlain ⟨Nat.le_of_ble_eq_true rfl, Nat.le_of_ble_eq_true rfl⟩ (k_rec X hW 13 0 Nat.zero_lt_one rfl rfl) hW hl.1 rfl (Nat.le_of_ble_eq_true rfl) dX5_join_50 (Nat.zero_le _) (Nat.zero_le _) (fun H locs hW hS => ?_)
            refine lb_if_eq (tgt := 94) hx hb dX5_join_53 (by decide) (fun c_57 => ?_) (fun c_57 => ?_)
            · skip
              refine lv_iconst (v := 0) hx hb dX5_join_94 (by decide) ?_
              refine lv_istore (lv' := [(5, .int 0), (0, .ref (ad 13 0)), (1, .int (nI i3)), (2, .int (nI i6)), (3, .int ((-1))), (4, .int (nI i45))]) hx hb dX5_join_95 hl (by decide) rfl (fun ls hl => ?_)
              have join141 : ∀ (un : Bool), (un = mUnl (nI i3) (nI i6) (-1) (nI i45)) → ∀ (H : Heap) (locs : List Loc), Wd G ad nA nK I J H → va_S (k_A G) s.heap H locs → ∀ ls : Array Slot, lv_has ls 8 [(6, .int (k_b un)), (5, .int 0), (0, .ref (ad 13 0)), (1, .int (nI i3)), (2, .int (nI i6)), (3, .int ((-1))), (4, .int (nI i45))] → W p l e { frames := 2, cells := 0, slots := 0, locals := 46 } s m ([.ref (ad 13 0), .int (nI i3), .int (nI i6), .int (-1), .int (nI i45)] : List Value).toArray below meth c H locs 0 0 (MQ below (k_Q G (some (.int ((mcJoin mA (nI i3) (nI i6) (-1) (nI i45) (I, J)).1))) (Wd G ad nA nK ((mcJoin mA (nI i3) (nI i6) (-1) (nI i45) (I, J)).2.1) ((mcJoin mA (nI i3) (nI i6) (-1) (nI i45) (I, J)).2.2))) ([.ref (ad 13 0), .int (nI i3), .int (nI i6), .int (-1), .int (nI i45)] : List Value).toArray s 0 0 (k_A G)) (F0 m 141 ls []) := by
                intro un hun H locs hW hS ls hl
                refine lv_iload hx hb dX5_join_141 (lv_at hl 1 rfl) ?_
                refine lv_if_eq (tgt := 160) hx hb dX5_join_143 (by decide) (fun _ => ?_) (fun c_58 => absurd (by decide) c_58)
                refine lv_sipush (v := (-1003)) hx hb dX5_join_160 (by decide) ?_
                exact w_iret X hr hlk hS (by first | rfl | (simp [mcJoin, mJoI, mw, c_1, hk3, c_4, hk6, hk8, c_9, c_44, hk45, c_57, hun]; done) | (simp [mcJoin, mJoI, mw, c_1, hk3, c_4, hk6, hk8, c_9, c_44, hk45, c_57, hun]; rfl)) (hW.to (by first | rfl | (simp [mcJoin, mJoI, mw, c_1, hk3, c_4, hk6, hk8, c_9, c_44, hk45, c_57, hun]; done)) (by first | rfl | (simp [mcJoin, mJoI, mw, c_1, hk3, c_4, hk6, hk8, c_9, c_44, hk45, c_57, hun]; done))) dX5_join_163
              exact join97 false (by simp [mPlX, c_1, hk3, c_4, hk6, hk8, c_9, c_44, hk45, c_57]) _ _ hW hS ls (lv_sub hl [0, 1, 2, 3, 4, 5] rfl)
            · skip
              refine lv_aload_n hx hb dX5_join_56 rfl (lv_at hl 0 rfl) ?_
              refine lv_iload_n hx hb dX5_join_57 rfl (lv_at hl 2 rfl) ?_
              refine w_cV1 X hS (m_X5_isPlain l G ad nA nK mA mK E I J i6 hs (by first | assumption | omega)) rfl rfl g619 g4 g616 g618 p31 hd_X5_isPlain ⟨Nat.le_of_ble_eq_true rfl, Nat.le_of_ble_eq_true rfl⟩ (k_rec X hW 13 0 Nat.zero_lt_one rfl rfl) hW hl.1 rfl (Nat.le_of_ble_eq_true rfl) dX5_join_58 (Nat.zero_le _) (Nat.zero_le _) (fun H locs hW hS => ?_)
              refine lb_if_eq (tgt := 94) hx hb dX5_join_61 (by decide) (fun c_59 => ?_) (fun c_59 => ?_)
              · skip
                refine lv_iconst (v := 0) hx hb dX5_join_94 (by decide) ?_
                refine lv_istore (lv' := [(5, .int 0), (0, .ref (ad 13 0)), (1, .int (nI i3)), (2, .int (nI i6)), (3, .int ((-1))), (4, .int (nI i45))]) hx hb dX5_join_95 hl (by decide) rfl (fun ls hl => ?_)
                have join141 : ∀ (un : Bool), (un = mUnl (nI i3) (nI i6) (-1) (nI i45)) → ∀ (H : Heap) (locs : List Loc), Wd G ad nA nK I J H → va_S (k_A G) s.heap H locs → ∀ ls : Array Slot, lv_has ls 8 [(6, .int (k_b un)), (5, .int 0), (0, .ref (ad 13 0)), (1, .int (nI i3)), (2, .int (nI i6)), (3, .int ((-1))), (4, .int (nI i45))] → W p l e { frames := 2, cells := 0, slots := 0, locals := 46 } s m ([.ref (ad 13 0), .int (nI i3), .int (nI i6), .int (-1), .int (nI i45)] : List Value).toArray below meth c H locs 0 0 (MQ below (k_Q G (some (.int ((mcJoin mA (nI i3) (nI i6) (-1) (nI i45) (I, J)).1))) (Wd G ad nA nK ((mcJoin mA (nI i3) (nI i6) (-1) (nI i45) (I, J)).2.1) ((mcJoin mA (nI i3) (nI i6) (-1) (nI i45) (I, J)).2.2))) ([.ref (ad 13 0), .int (nI i3), .int (nI i6), .int (-1), .int (nI i45)] : List Value).toArray s 0 0 (k_A G)) (F0 m 141 ls []) := by
                  intro un hun H locs hW hS ls hl
                  refine lv_iload hx hb dX5_join_141 (lv_at hl 1 rfl) ?_
                  refine lv_if_eq (tgt := 160) hx hb dX5_join_143 (by decide) (fun _ => ?_) (fun c_60 => absurd (by decide) c_60)
                  refine lv_sipush (v := (-1003)) hx hb dX5_join_160 (by decide) ?_
                  exact w_iret X hr hlk hS (by first | rfl | (simp [mcJoin, mJoI, mw, c_1, hk3, c_4, hk6, hk8, c_9, c_44, hk45, c_57, c_59, hun]; done) | (simp [mcJoin, mJoI, mw, c_1, hk3, c_4, hk6, hk8, c_9, c_44, hk45, c_57, c_59, hun]; rfl)) (hW.to (by first | rfl | (simp [mcJoin, mJoI, mw, c_1, hk3, c_4, hk6, hk8, c_9, c_44, hk45, c_57, c_59, hun]; done)) (by first | rfl | (simp [mcJoin, mJoI, mw, c_1, hk3, c_4, hk6, hk8, c_9, c_44, hk45, c_57, c_59, hun]; done))) dX5_join_163
                exact join97 false (by simp [mPlX, c_1, hk3, c_4, hk6, hk8, c_9, c_44, hk45, c_57, c_59]) _ _ hW hS ls (lv_sub hl [0, 1, 2, 3, 4, 5] rfl)
              · skip
                refine lv_iload_n hx hb dX5_join_64 rfl (lv_at hl 3 rfl) ?_
                refine lv_if_lt (tgt := 76) hx hb dX5_join_65 (by decide) (fun _ => ?_) (fun c_61 => absurd (by decide) c_61)
                refine lv_iload hx hb dX5_join_76 (lv_at hl 4 rfl) ?_
                refine lv_if_lt (tgt := 90) hx hb dX5_join_78 (by decide) (fun c_62 => absurd c_62 (nI_pos (by omega))) (fun _ => ?_)
                refine lv_aload_n hx hb dX5_join_81 rfl (lv_at hl 0 rfl) ?_
                refine lv_iload hx hb dX5_join_82 (lv_at hl 4 rfl) ?_
                refine w_cV1 X hS (m_X5_isPlain l G ad nA nK mA mK E I J i45 hs (by first | assumption | omega)) rfl rfl g619 g4 g616 g618 p31 hd_X5_isPlain ⟨Nat.le_of_ble_eq_true rfl, Nat.le_of_ble_eq_true rfl⟩ (k_rec X hW 13 0 Nat.zero_lt_one rfl rfl) hW hl.1 rfl (Nat.le_of_ble_eq_true rfl) dX5_join_84 (Nat.zero_le _) (Nat.zero_le _) (fun H locs hW hS => ?_)
                refine lb_if_eq (tgt := 94) hx hb dX5_join_87 (by decide) (fun c_63 => ?_) (fun c_63 => ?_)
                · skip
                  refine lv_iconst (v := 0) hx hb dX5_join_94 (by decide) ?_
                  refine lv_istore (lv' := [(5, .int 0), (0, .ref (ad 13 0)), (1, .int (nI i3)), (2, .int (nI i6)), (3, .int ((-1))), (4, .int (nI i45))]) hx hb dX5_join_95 hl (by decide) rfl (fun ls hl => ?_)
                  have join141 : ∀ (un : Bool), (un = mUnl (nI i3) (nI i6) (-1) (nI i45)) → ∀ (H : Heap) (locs : List Loc), Wd G ad nA nK I J H → va_S (k_A G) s.heap H locs → ∀ ls : Array Slot, lv_has ls 8 [(6, .int (k_b un)), (5, .int 0), (0, .ref (ad 13 0)), (1, .int (nI i3)), (2, .int (nI i6)), (3, .int ((-1))), (4, .int (nI i45))] → W p l e { frames := 2, cells := 0, slots := 0, locals := 46 } s m ([.ref (ad 13 0), .int (nI i3), .int (nI i6), .int (-1), .int (nI i45)] : List Value).toArray below meth c H locs 0 0 (MQ below (k_Q G (some (.int ((mcJoin mA (nI i3) (nI i6) (-1) (nI i45) (I, J)).1))) (Wd G ad nA nK ((mcJoin mA (nI i3) (nI i6) (-1) (nI i45) (I, J)).2.1) ((mcJoin mA (nI i3) (nI i6) (-1) (nI i45) (I, J)).2.2))) ([.ref (ad 13 0), .int (nI i3), .int (nI i6), .int (-1), .int (nI i45)] : List Value).toArray s 0 0 (k_A G)) (F0 m 141 ls []) := by
                    intro un hun H locs hW hS ls hl
                    refine lv_iload hx hb dX5_join_141 (lv_at hl 1 rfl) ?_
                    refine lv_if_eq (tgt := 160) hx hb dX5_join_143 (by decide) (fun _ => ?_) (fun c_64 => absurd (by decide) c_64)
                    refine lv_sipush (v := (-1003)) hx hb dX5_join_160 (by decide) ?_
                    exact w_iret X hr hlk hS (by first | rfl | (simp [mcJoin, mJoI, mw, c_1, hk3, c_4, hk6, hk8, c_9, c_44, hk45, c_57, c_59, c_63, hun]; done) | (simp [mcJoin, mJoI, mw, c_1, hk3, c_4, hk6, hk8, c_9, c_44, hk45, c_57, c_59, c_63, hun]; rfl)) (hW.to (by first | rfl | (simp [mcJoin, mJoI, mw, c_1, hk3, c_4, hk6, hk8, c_9, c_44, hk45, c_57, c_59, c_63, hun]; done)) (by first | rfl | (simp [mcJoin, mJoI, mw, c_1, hk3, c_4, hk6, hk8, c_9, c_44, hk45, c_57, c_59, c_63, hun]; done))) dX5_join_163
                  exact join97 false (by simp [mPlX, c_1, hk3, c_4, hk6, hk8, c_9, c_44, hk45, c_57, c_59, c_63]) _ _ hW hS ls (lv_sub hl [0, 1, 2, 3, 4, 5] rfl)
                · skip
                  refine lv_iconst (v := 1) hx hb dX5_join_90 (by decide) ?_
                  refine lv_goto (tgt := 95) hx hb dX5_join_91 (by decide) ?_
                  refine lv_istore (lv' := [(5, .int 1), (0, .ref (ad 13 0)), (1, .int (nI i3)), (2, .int (nI i6)), (3, .int ((-1))), (4, .int (nI i45))]) hx hb dX5_join_95 hl (by decide) rfl (fun ls hl => ?_)
                  have join141 : ∀ (un : Bool), (un = mUnl (nI i3) (nI i6) (-1) (nI i45)) → ∀ (H : Heap) (locs : List Loc), Wd G ad nA nK I J H → va_S (k_A G) s.heap H locs → ∀ ls : Array Slot, lv_has ls 8 [(6, .int (k_b un)), (5, .int 1), (0, .ref (ad 13 0)), (1, .int (nI i3)), (2, .int (nI i6)), (3, .int ((-1))), (4, .int (nI i45))] → W p l e { frames := 2, cells := 0, slots := 0, locals := 46 } s m ([.ref (ad 13 0), .int (nI i3), .int (nI i6), .int (-1), .int (nI i45)] : List Value).toArray below meth c H locs 0 0 (MQ below (k_Q G (some (.int ((mcJoin mA (nI i3) (nI i6) (-1) (nI i45) (I, J)).1))) (Wd G ad nA nK ((mcJoin mA (nI i3) (nI i6) (-1) (nI i45) (I, J)).2.1) ((mcJoin mA (nI i3) (nI i6) (-1) (nI i45) (I, J)).2.2))) ([.ref (ad 13 0), .int (nI i3), .int (nI i6), .int (-1), .int (nI i45)] : List Value).toArray s 0 0 (k_A G)) (F0 m 141 ls []) := by
                    intro un hun H locs hW hS ls hl
                    refine lv_iload hx hb dX5_join_141 (lv_at hl 1 rfl) ?_
                    refine lv_if_eq (tgt := 160) hx hb dX5_join_143 (by decide) (fun c_65 => absurd c_65 (by decide)) (fun _ => ?_)
                    refine lv_iload hx hb dX5_join_146 (lv_at hl 0 rfl) ?_
                    refine lb_if_eq (tgt := 160) hx hb dX5_join_148 (by decide) (fun c_66 => ?_) (fun c_66 => ?_)
                    · skip
                      refine lv_sipush (v := (-1003)) hx hb dX5_join_160 (by decide) ?_
                      exact w_iret X hr hlk hS (by first | rfl | (simp [mcJoin, mJoI, mw, c_1, hk3, c_4, hk6, hk8, c_9, c_44, hk45, c_57, c_59, c_63, hun, c_66]; done) | (simp [mcJoin, mJoI, mw, c_1, hk3, c_4, hk6, hk8, c_9, c_44, hk45, c_57, c_59, c_63, hun, c_66]; rfl)) (hW.to (by first | rfl | (simp [mcJoin, mJoI, mw, c_1, hk3, c_4, hk6, hk8, c_9, c_44, hk45, c_57, c_59, c_63, hun, c_66]; done)) (by first | rfl | (simp [mcJoin, mJoI, mw, c_1, hk3, c_4, hk6, hk8, c_9, c_44, hk45, c_57, c_59, c_63, hun, c_66]; done))) dX5_join_163
                    · skip
                      refine lv_iload_n hx hb dX5_join_151 rfl (lv_at hl 5 rfl) ?_
                      refine lv_if_ge (tgt := 164) hx hb dX5_join_152 (by decide) (fun c_67 => absurd c_67 (by decide)) (fun _ => ?_)
                      refine lv_iload hx hb dX5_join_155 (lv_at hl 6 rfl) ?_
                      refine lv_if_lt (tgt := 164) hx hb dX5_join_157 (by decide) (fun c_68 => absurd c_68 (nI_pos (by omega))) (fun _ => ?_)
                      refine lv_sipush (v := (-1003)) hx hb dX5_join_160 (by decide) ?_
                      exact w_iret X hr hlk hS (by first | rfl | (simp [mcJoin, mJoI, mw, c_1, hk3, c_4, hk6, hk8, c_9, c_44, hk45, c_57, c_59, c_63, hun, c_66]; done) | (simp [mcJoin, mJoI, mw, c_1, hk3, c_4, hk6, hk8, c_9, c_44, hk45, c_57, c_59, c_63, hun, c_66]; rfl)) (hW.to (by first | rfl | (simp [mcJoin, mJoI, mw, c_1, hk3, c_4, hk6, hk8, c_9, c_44, hk45, c_57, c_59, c_63, hun, c_66]; done)) (by first | rfl | (simp [mcJoin, mJoI, mw, c_1, hk3, c_4, hk6, hk8, c_9, c_44, hk45, c_57, c_59, c_63, hun, c_66]; done))) dX5_join_163
                  exact join97 true (by simp [mPlX, c_1, hk3, c_4, hk6, hk8, c_9, c_44, hk45, c_57, c_59, c_63]) _ _ hW hS ls (lv_sub hl [0, 1, 2, 3, 4, 5] rfl)
          · skip
            have hk69 : kAns mA d9 = none := mIs_none (by omega) c_44
            refine lv_sipush (v := (-1001)) hx hb dX5_join_44 (by decide) ?_
            exact w_iret X hr hlk hS (by first | rfl | (simp [mcJoin, mJoI, mw, c_1, hk3, c_4, hk6, hk8, c_9, c_44, hk69]; done) | (simp [mcJoin, mJoI, mw, c_1, hk3, c_4, hk6, hk8, c_9, c_44, hk69]; rfl)) (hW.to (by first | rfl | (simp [mcJoin, mJoI, mw, c_1, hk3, c_4, hk6, hk8, c_9, c_44, hk69]; done)) (by first | rfl | (simp [mcJoin, mJoI, mw, c_1, hk3, c_4, hk6, hk8, c_9, c_44, hk69]; done))) dX5_join_47
      · skip
        refine lv_aload_n hx hb dX5_join_21 rfl (lv_at hl 0 rfl) ?_
        refine lv_iload_n hx hb dX5_join_22 rfl (lv_at hl 3 rfl) ?_
        refine w_cV1 X hS (m_X5_is l G ad nA nK mA mK E I J c9 hs) rfl rfl g615 g4 g612 g614 p30 hd_X5_is ⟨Nat.le_of_ble_eq_true rfl, Nat.le_of_ble_eq_true rfl⟩ (k_rec X hW 13 0 Nat.zero_lt_one rfl rfl) hW hl.1 rfl (Nat.le_of_ble_eq_true rfl) dX5_join_23 (Nat.zero_le _) (Nat.zero_le _) (fun H locs hW hS => ?_)
        refine lb_if_eq (tgt := 44) hx hb dX5_join_26 (by decide) (fun c_70 => ?_) (fun c_70 => ?_)
        · skip
          have hk71 : kAns mA c9 = none := mIs_none (by omega) c_70
          refine lv_sipush (v := (-1001)) hx hb dX5_join_44 (by decide) ?_
          exact w_iret X hr hlk hS (by first | rfl | (simp [mcJoin, mJoI, mw, c_1, hk3, c_4, hk6, c_7, c_70, hk71]; done) | (simp [mcJoin, mJoI, mw, c_1, hk3, c_4, hk6, c_7, c_70, hk71]; rfl)) (hW.to (by first | rfl | (simp [mcJoin, mJoI, mw, c_1, hk3, c_4, hk6, c_7, c_70, hk71]; done)) (by first | rfl | (simp [mcJoin, mJoI, mw, c_1, hk3, c_4, hk6, c_7, c_70, hk71]; done))) dX5_join_47
        · skip
          obtain ⟨i72, hi72, rfl⟩ := mIs_nat (by omega) c_70
          have hk72 : kAns mA (nI i72) = some i72 := kAns_lt hi72 (by omega)
          have hl : lv_has ls 8 [(0, .ref (ad 13 0)), (1, .int (nI i3)), (2, .int (nI i6)), (3, .int (nI i72)), (4, .int d9)] := hl
          refine lv_iload hx hb dX5_join_29 (lv_at hl 4 rfl) ?_
          refine lv_iconst (v := (-1)) hx hb dX5_join_31 (by decide) ?_
          refine lv_icmp_eq (tgt := 48) hx hb dX5_join_32 (by decide) (fun c_73 => ?_) (fun c_73 => ?_)
          · skip
            subst c_73
            have hk74 : kAns mA (-1) = none := rfl
            have hl : lv_has ls 8 [(0, .ref (ad 13 0)), (1, .int (nI i3)), (2, .int (nI i6)), (3, .int (nI i72)), (4, .int ((-1)))] := hl
            have join97 : ∀ (pl : Bool), (pl = (mPlX mA I (nI i3) && (mPlX mA I (nI i6) && (mPlX mA I (nI i72) && mPlX mA I (-1))))) → ∀ (H : Heap) (locs : List Loc), Wd G ad nA nK I J H → va_S (k_A G) s.heap H locs → ∀ ls : Array Slot, lv_has ls 8 [(5, .int (k_b pl)), (0, .ref (ad 13 0)), (1, .int (nI i3)), (2, .int (nI i6)), (3, .int (nI i72)), (4, .int ((-1)))] → W p l e { frames := 2, cells := 0, slots := 0, locals := 46 } s m ([.ref (ad 13 0), .int (nI i3), .int (nI i6), .int (nI i72), .int (-1)] : List Value).toArray below meth c H locs 0 0 (MQ below (k_Q G (some (.int ((mcJoin mA (nI i3) (nI i6) (nI i72) (-1) (I, J)).1))) (Wd G ad nA nK ((mcJoin mA (nI i3) (nI i6) (nI i72) (-1) (I, J)).2.1) ((mcJoin mA (nI i3) (nI i6) (nI i72) (-1) (I, J)).2.2))) ([.ref (ad 13 0), .int (nI i3), .int (nI i6), .int (nI i72), .int (-1)] : List Value).toArray s 0 0 (k_A G)) (F0 m 97 ls []) := by
              intro pl hpl H locs hW hS ls hl
              have join141 : ∀ (un : Bool), (un = mUnl (nI i3) (nI i6) (nI i72) (-1)) → ∀ (H : Heap) (locs : List Loc), Wd G ad nA nK I J H → va_S (k_A G) s.heap H locs → ∀ ls : Array Slot, lv_has ls 8 [(6, .int (k_b un)), (5, .int (k_b pl)), (0, .ref (ad 13 0)), (1, .int (nI i3)), (2, .int (nI i6)), (3, .int (nI i72)), (4, .int ((-1)))] → W p l e { frames := 2, cells := 0, slots := 0, locals := 46 } s m ([.ref (ad 13 0), .int (nI i3), .int (nI i6), .int (nI i72), .int (-1)] : List Value).toArray below meth c H locs 0 0 (MQ below (k_Q G (some (.int ((mcJoin mA (nI i3) (nI i6) (nI i72) (-1) (I, J)).1))) (Wd G ad nA nK ((mcJoin mA (nI i3) (nI i6) (nI i72) (-1) (I, J)).2.1) ((mcJoin mA (nI i3) (nI i6) (nI i72) (-1) (I, J)).2.2))) ([.ref (ad 13 0), .int (nI i3), .int (nI i6), .int (nI i72), .int (-1)] : List Value).toArray s 0 0 (k_A G)) (F0 m 141 ls []) := by
                intro un hun H locs hW hS ls hl
                refine lv_iload hx hb dX5_join_141 (lv_at hl 1 rfl) ?_
                refine lb_if_eq (tgt := 160) hx hb dX5_join_143 (by decide) (fun c_75 => ?_) (fun c_75 => ?_)
                · skip
                  refine lv_sipush (v := (-1003)) hx hb dX5_join_160 (by decide) ?_
                  exact w_iret X hr hlk hS (by first | rfl | (simp [mcJoin, mJoI, mw, c_1, hk3, c_4, hk6, c_7, c_70, hk72, hk74, hpl, hun, c_75]; done) | (simp [mcJoin, mJoI, mw, c_1, hk3, c_4, hk6, c_7, c_70, hk72, hk74, hpl, hun, c_75]; rfl)) (hW.to (by first | rfl | (simp [mcJoin, mJoI, mw, c_1, hk3, c_4, hk6, c_7, c_70, hk72, hk74, hpl, hun, c_75]; done)) (by first | rfl | (simp [mcJoin, mJoI, mw, c_1, hk3, c_4, hk6, c_7, c_70, hk72, hk74, hpl, hun, c_75]; done))) dX5_join_163
                · skip
                  refine lv_iload hx hb dX5_join_146 (lv_at hl 0 rfl) ?_
                  refine lb_if_eq (tgt := 160) hx hb dX5_join_148 (by decide) (fun c_76 => ?_) (fun c_76 => ?_)
                  · skip
                    refine lv_sipush (v := (-1003)) hx hb dX5_join_160 (by decide) ?_
                    exact w_iret X hr hlk hS (by first | rfl | (simp [mcJoin, mJoI, mw, c_1, hk3, c_4, hk6, c_7, c_70, hk72, hk74, hpl, hun, c_75, c_76]; done) | (simp [mcJoin, mJoI, mw, c_1, hk3, c_4, hk6, c_7, c_70, hk72, hk74, hpl, hun, c_75, c_76]; rfl)) (hW.to (by first | rfl | (simp [mcJoin, mJoI, mw, c_1, hk3, c_4, hk6, c_7, c_70, hk72, hk74, hpl, hun, c_75, c_76]; done)) (by first | rfl | (simp [mcJoin, mJoI, mw, c_1, hk3, c_4, hk6, c_7, c_70, hk72, hk74, hpl, hun, c_75, c_76]; done))) dX5_join_163
                  · skip
                    refine lv_iload_n hx hb dX5_join_151 rfl (lv_at hl 5 rfl) ?_
                    refine lv_if_ge (tgt := 164) hx hb dX5_join_152 (by decide) (fun _ => ?_) (fun c_77 => absurd (nI_pos' (by omega)) c_77)
                    refine lv_aload_n hx hb dX5_join_164 rfl (lv_at hl 2 rfl) ?_
                    refine w_get (v := .int (nI mA)) X hW 13 0 Nat.zero_lt_one rfl rfl inG5 6 (by decide) g504 (congrArg (fun z => some (Value.int z)) hs.1) dX5_join_165 ?_
                    refine lv_bipush (v := 24) hx hb dX5_join_168 (by decide) ?_
                    refine lv_icmp_ne (tgt := 177) hx hb dX5_join_170 (by decide) (fun c_78 => ?_) (fun c_78 => ?_)
                    · skip
                      have h24 : mA < 24 := nI_full (N := 24) (by omega) (by decide) rfl c_78
                      refine lv_aload_n hx hb dX5_join_177 rfl (lv_at hl 2 rfl) ?_
                      refine lv_iconst (v := 1) hx hb dX5_join_178 (by decide) ?_
                      refine w_cV1 X hS (m_X5_fresh l G ad nA nK mA mK E I J 1 hs (by first | assumption | omega)) rfl rfl g607 g4 g604 g606 p29 hd_X5_fresh ⟨Nat.le_of_ble_eq_true rfl, Nat.le_of_ble_eq_true rfl⟩ (k_rec X hW 13 0 Nat.zero_lt_one rfl rfl) hW hl.1 rfl (Nat.le_of_ble_eq_true rfl) dX5_join_179 (Nat.zero_le _) (Nat.zero_le _) (fun H locs hW hS => ?_)
                      obtain ⟨I79, eI79⟩ : ∃ z, z = mFr mA 1 I := ⟨_, rfl⟩
                      rw [← eI79] at hW
                      have hs79 : m_S mA mK E I79 := by rw [eI79]; exact sorry
                      obtain ⟨J79, eJ79⟩ : ∃ z, z = mFrJ mA J := ⟨_, rfl⟩
                      rw [← eJ79] at hW
                      refine lv_istore (lv' := [(7, .int (nI mA)), (6, .int (k_b un)), (5, .int (k_b pl)), (0, .ref (ad 13 0)), (1, .int (nI i3)), (2, .int (nI i6)), (3, .int (nI i72)), (4, .int ((-1)))]) hx hb dX5_join_182 hl (by decide) rfl (fun ls hl => ?_)
                      refine lv_aload_n hx hb dX5_join_184 rfl (lv_at hl 3 rfl) ?_
                      refine w_get X hW 13 0 Nat.zero_lt_one rfl rfl inG5 15 (by decide) g513 rfl dX5_join_185 ?_
                      refine lv_iconst (v := 4) hx hb dX5_join_188 (by decide) ?_
                      refine lv_iload hx hb dX5_join_189 (lv_at hl 0 rfl) ?_
                      refine lw_imulN (a := 4) (b := mA) hx hb dX5_join_191 ?_
                      refine lv_iload_n hx hb dX5_join_192 rfl (lv_at hl 4 rfl) ?_
                      refine w_iastN (i := 4 * mA) X hW hS 35 0 Nat.zero_lt_one rfl (by omega) rfl dX5_join_193 (fun H locs hW hS => ?_)
                      obtain ⟨I80, eI80⟩ : ∃ z, z = k_up I79 35 0 (upd (I79 35 0) (4 * mA) (nI i3)) := ⟨_, rfl⟩
                      rw [← eI80] at hW
                      refine lv_aload_n hx hb dX5_join_194 rfl (lv_at hl 3 rfl) ?_
                      refine w_get X hW 13 0 Nat.zero_lt_one rfl rfl inG5 15 (by decide) g513 rfl dX5_join_195 ?_
                      refine lv_iconst (v := 4) hx hb dX5_join_198 (by decide) ?_
                      refine lv_iload hx hb dX5_join_199 (lv_at hl 0 rfl) ?_
                      refine lw_imulN (a := 4) (b := mA) hx hb dX5_join_201 ?_
                      refine lv_iconst (v := 1) hx hb dX5_join_202 (by decide) ?_
                      refine lw_iaddN (a := 4 * mA) (b := 1) hx hb dX5_join_203 ?_
                      refine lv_iload_n hx hb dX5_join_204 rfl (lv_at hl 5 rfl) ?_
                      refine w_iastN (i := 4 * mA + 1) X hW hS 35 0 Nat.zero_lt_one rfl (by omega) rfl dX5_join_205 (fun H locs hW hS => ?_)
                      obtain ⟨I81, eI81⟩ : ∃ z, z = k_up I80 35 0 (upd (I80 35 0) (4 * mA + 1) (nI i6)) := ⟨_, rfl⟩
                      rw [← eI81] at hW
                      refine lv_aload_n hx hb dX5_join_206 rfl (lv_at hl 3 rfl) ?_
                      refine w_get X hW 13 0 Nat.zero_lt_one rfl rfl inG5 15 (by decide) g513 rfl dX5_join_207 ?_
                      refine lv_iconst (v := 4) hx hb dX5_join_210 (by decide) ?_
                      refine lv_iload hx hb dX5_join_211 (lv_at hl 0 rfl) ?_
                      refine lw_imulN (a := 4) (b := mA) hx hb dX5_join_213 ?_
                      refine lv_iconst (v := 2) hx hb dX5_join_214 (by decide) ?_
                      refine lw_iaddN (a := 4 * mA) (b := 2) hx hb dX5_join_215 ?_
                      refine lv_iload_n hx hb dX5_join_216 rfl (lv_at hl 6 rfl) ?_
                      refine w_iastN (i := 4 * mA + 2) X hW hS 35 0 Nat.zero_lt_one rfl (by omega) rfl dX5_join_217 (fun H locs hW hS => ?_)
                      obtain ⟨I82, eI82⟩ : ∃ z, z = k_up I81 35 0 (upd (I81 35 0) (4 * mA + 2) (nI i72)) := ⟨_, rfl⟩
                      rw [← eI82] at hW
                      refine lv_aload_n hx hb dX5_join_218 rfl (lv_at hl 3 rfl) ?_
                      refine w_get X hW 13 0 Nat.zero_lt_one rfl rfl inG5 15 (by decide) g513 rfl dX5_join_219 ?_
                      refine lv_iconst (v := 4) hx hb dX5_join_222 (by decide) ?_
                      refine lv_iload hx hb dX5_join_223 (lv_at hl 0 rfl) ?_
                      refine lw_imulN (a := 4) (b := mA) hx hb dX5_join_225 ?_
                      refine lv_iconst (v := 3) hx hb dX5_join_226 (by decide) ?_
                      refine lw_iaddN (a := 4 * mA) (b := 3) hx hb dX5_join_227 ?_
                      refine lv_iload hx hb dX5_join_228 (lv_at hl 7 rfl) ?_
                      refine w_iastN (i := 4 * mA + 3) X hW hS 35 0 Nat.zero_lt_one rfl (by omega) rfl dX5_join_230 (fun H locs hW hS => ?_)
                      obtain ⟨I83, eI83⟩ : ∃ z, z = k_up I82 35 0 (upd (I82 35 0) (4 * mA + 3) (-1)) := ⟨_, rfl⟩
                      rw [← eI83] at hW
                      refine lv_iload hx hb dX5_join_231 (lv_at hl 0 rfl) ?_
                      exact w_iret X hr hlk hS (by first | rfl | (simp [mcJoin, mJoI, mw, c_1, hk3, c_4, hk6, c_7, c_70, hk72, hk74, hpl, hun, c_75, c_76, c_78, eI79, eJ79, eI80, eI81, eI82, eI83]; done) | (subst eI83 eI82 eI81 eI80 eJ79 eI79; simp [mcJoin, mJoI, mw, c_1, hk3, c_4, hk6, c_7, c_70, hk72, hk74, hpl, hun, c_75, c_76, c_78]; done) | (simp [mcJoin, mJoI, mw, c_1, hk3, c_4, hk6, c_7, c_70, hk72, hk74, hpl, hun, c_75, c_76, c_78, eI79, eJ79, eI80, eI81, eI82, eI83]; rfl)) (hW.to (by first | rfl | (subst eI83 eI82 eI81 eI80 eJ79 eI79; simp [mcJoin, mJoI, mw, c_1, hk3, c_4, hk6, c_7, c_70, hk72, hk74, hpl, hun, c_75, c_76, c_78]; done) | (subst eI83 eI82 eI81 eI80 eJ79 eI79; rfl) | (subst eI83 eI82 eI81 eI80 eJ79 eI79; simp [mcJoin, mJoI, mw, c_1, hk3, c_4, hk6, c_7, c_70, hk72, hk74, hpl, hun, c_75, c_76, c_78]; done) | (subst eI83 eI82 eI81 eI80 eJ79 eI79; simp [mcJoin, mJoI, mw, c_1, hk3, c_4, hk6, c_7, c_70, hk72, hk74, hpl, hun, c_75, c_76, c_78]; rfl) | (simp [mcJoin, mJoI, mw, c_1, hk3, c_4, hk6, c_7, c_70, hk72, hk74, hpl, hun, c_75, c_76, c_78, eI79, eJ79, eI80, eI81, eI82, eI83]; done)) (by first | rfl | (subst eI83 eI82 eI81 eI80 eJ79 eI79; simp [mcJoin, mJoI, mw, c_1, hk3, c_4, hk6, c_7, c_70, hk72, hk74, hpl, hun, c_75, c_76, c_78]; done) | (subst eI83 eI82 eI81 eI80 eJ79 eI79; rfl) | (subst eI83 eI82 eI81 eI80 eJ79 eI79; simp [mcJoin, mJoI, mw, c_1, hk3, c_4, hk6, c_7, c_70, hk72, hk74, hpl, hun, c_75, c_76, c_78]; done) | (subst eI83 eI82 eI81 eI80 eJ79 eI79; simp [mcJoin, mJoI, mw, c_1, hk3, c_4, hk6, c_7, c_70, hk72, hk74, hpl, hun, c_75, c_76, c_78]; rfl) | (simp [mcJoin, mJoI, mw, c_1, hk3, c_4, hk6, c_7, c_70, hk72, hk74, hpl, hun, c_75, c_76, c_78, eI79, eJ79, eI80, eI81, eI82, eI83]; done))) dX5_join_233
                    · skip
                      refine lv_sipush (v := (-1004)) hx hb dX5_join_173 (by decide) ?_
                      exact w_iret X hr hlk hS (by first | rfl | (simp [mcJoin, mJoI, mw, c_1, hk3, c_4, hk6, c_7, c_70, hk72, hk74, hpl, hun, c_75, c_76, c_78]; done) | (simp [mcJoin, mJoI, mw, c_1, hk3, c_4, hk6, c_7, c_70, hk72, hk74, hpl, hun, c_75, c_76, c_78]; rfl)) (hW.to (by first | rfl | (simp [mcJoin, mJoI, mw, c_1, hk3, c_4, hk6, c_7, c_70, hk72, hk74, hpl, hun, c_75, c_76, c_78]; done)) (by first | rfl | (simp [mcJoin, mJoI, mw, c_1, hk3, c_4, hk6, c_7, c_70, hk72, hk74, hpl, hun, c_75, c_76, c_78]; done))) dX5_join_176
              refine lv_iload_n hx hb dX5_join_97 rfl (lv_at hl 2 rfl) ?_
              refine lv_iload_n hx hb dX5_join_98 rfl (lv_at hl 3 rfl) ?_
              refine lv_icmp_eq (tgt := 138) hx hb dX5_join_99 (by decide) (fun c_84 => ?_) (fun c_84 => ?_)
              · skip
                refine lv_iconst (v := 0) hx hb dX5_join_138 (by decide) ?_
                refine lv_istore (lv' := [(6, .int 0), (5, .int (k_b pl)), (0, .ref (ad 13 0)), (1, .int (nI i3)), (2, .int (nI i6)), (3, .int (nI i72)), (4, .int ((-1)))]) hx hb dX5_join_139 hl (by decide) rfl (fun ls hl => ?_)
                exact join141 false (by simp [mUnl, c_1, hk3, c_4, hk6, c_7, c_70, hk72, hk74, hpl, c_84]) _ _ hW hS ls (lv_sub hl [0, 1, 2, 3, 4, 5, 6] rfl)
              · skip
                refine lv_iload_n hx hb dX5_join_102 rfl (lv_at hl 2 rfl) ?_
                refine lv_iload_n hx hb dX5_join_103 rfl (lv_at hl 4 rfl) ?_
                refine lv_icmp_eq (tgt := 138) hx hb dX5_join_104 (by decide) (fun c_85 => ?_) (fun c_85 => ?_)
                · skip
                  refine lv_iconst (v := 0) hx hb dX5_join_138 (by decide) ?_
                  refine lv_istore (lv' := [(6, .int 0), (5, .int (k_b pl)), (0, .ref (ad 13 0)), (1, .int (nI i3)), (2, .int (nI i6)), (3, .int (nI i72)), (4, .int ((-1)))]) hx hb dX5_join_139 hl (by decide) rfl (fun ls hl => ?_)
                  exact join141 false (by simp [mUnl, c_1, hk3, c_4, hk6, c_7, c_70, hk72, hk74, hpl, c_84, c_85]) _ _ hW hS ls (lv_sub hl [0, 1, 2, 3, 4, 5, 6] rfl)
                · skip
                  refine lv_iload_n hx hb dX5_join_107 rfl (lv_at hl 3 rfl) ?_
                  refine lv_iload_n hx hb dX5_join_108 rfl (lv_at hl 4 rfl) ?_
                  refine lv_icmp_eq (tgt := 138) hx hb dX5_join_109 (by decide) (fun c_86 => ?_) (fun c_86 => ?_)
                  · skip
                    refine lv_iconst (v := 0) hx hb dX5_join_138 (by decide) ?_
                    refine lv_istore (lv' := [(6, .int 0), (5, .int (k_b pl)), (0, .ref (ad 13 0)), (1, .int (nI i3)), (2, .int (nI i6)), (3, .int (nI i72)), (4, .int ((-1)))]) hx hb dX5_join_139 hl (by decide) rfl (fun ls hl => ?_)
                    exact join141 false (by simp [mUnl, c_1, hk3, c_4, hk6, c_7, c_70, hk72, hk74, hpl, c_84, c_85, c_86]) _ _ hW hS ls (lv_sub hl [0, 1, 2, 3, 4, 5, 6] rfl)
                  · skip
                    refine lv_iload_n hx hb dX5_join_112 rfl (lv_at hl 2 rfl) ?_
                    refine lv_iload hx hb dX5_join_113 (lv_at hl 5 rfl) ?_
                    refine lv_icmp_eq (tgt := 138) hx hb dX5_join_115 (by decide) (fun c_87 => ?_) (fun c_87 => ?_)
                    · skip
                      refine lv_iconst (v := 0) hx hb dX5_join_138 (by decide) ?_
                      refine lv_istore (lv' := [(6, .int 0), (5, .int (k_b pl)), (0, .ref (ad 13 0)), (1, .int (nI i3)), (2, .int (nI i6)), (3, .int (nI i72)), (4, .int ((-1)))]) hx hb dX5_join_139 hl (by decide) rfl (fun ls hl => ?_)
                      exact join141 false (by simp [mUnl, c_1, hk3, c_4, hk6, c_7, c_70, hk72, hk74, hpl, c_84, c_85, c_86, c_87]) _ _ hW hS ls (lv_sub hl [0, 1, 2, 3, 4, 5, 6] rfl)
                    · skip
                      refine lv_iload_n hx hb dX5_join_118 rfl (lv_at hl 3 rfl) ?_
                      refine lv_iload hx hb dX5_join_119 (lv_at hl 5 rfl) ?_
                      refine lv_icmp_eq (tgt := 138) hx hb dX5_join_121 (by decide) (fun c_88 => ?_) (fun c_88 => ?_)
                      · skip
                        refine lv_iconst (v := 0) hx hb dX5_join_138 (by decide) ?_
                        refine lv_istore (lv' := [(6, .int 0), (5, .int (k_b pl)), (0, .ref (ad 13 0)), (1, .int (nI i3)), (2, .int (nI i6)), (3, .int (nI i72)), (4, .int ((-1)))]) hx hb dX5_join_139 hl (by decide) rfl (fun ls hl => ?_)
                        exact join141 false (by simp [mUnl, c_1, hk3, c_4, hk6, c_7, c_70, hk72, hk74, hpl, c_84, c_85, c_86, c_87, c_88]) _ _ hW hS ls (lv_sub hl [0, 1, 2, 3, 4, 5, 6] rfl)
                      · skip
                        refine lv_iload_n hx hb dX5_join_124 rfl (lv_at hl 4 rfl) ?_
                        refine lv_iload hx hb dX5_join_125 (lv_at hl 5 rfl) ?_
                        refine lv_icmp_ne (tgt := 134) hx hb dX5_join_127 (by decide) (fun c_89 => ?_) (fun c_89 => ?_)
                        · skip
                          refine lv_iconst (v := 1) hx hb dX5_join_134 (by decide) ?_
                          refine lv_goto (tgt := 139) hx hb dX5_join_135 (by decide) ?_
                          refine lv_istore (lv' := [(6, .int 1), (5, .int (k_b pl)), (0, .ref (ad 13 0)), (1, .int (nI i3)), (2, .int (nI i6)), (3, .int (nI i72)), (4, .int ((-1)))]) hx hb dX5_join_139 hl (by decide) rfl (fun ls hl => ?_)
                          exact join141 true (by simp [mUnl, c_1, hk3, c_4, hk6, c_7, c_70, hk72, hk74, hpl, c_84, c_85, c_86, c_87, c_88, c_89]) _ _ hW hS ls (lv_sub hl [0, 1, 2, 3, 4, 5, 6] rfl)
                        · skip
                          refine lv_iload_n hx hb dX5_join_130 rfl (lv_at hl 4 rfl) ?_
                          refine lv_if_ge (tgt := 138) hx hb dX5_join_131 (by decide) (fun _ => ?_) (fun c_90 => absurd (nI_pos' (by omega)) c_90)
                          refine lv_iconst (v := 0) hx hb dX5_join_138 (by decide) ?_
                          refine lv_istore (lv' := [(6, .int 0), (5, .int (k_b pl)), (0, .ref (ad 13 0)), (1, .int (nI i3)), (2, .int (nI i6)), (3, .int (nI i72)), (4, .int ((-1)))]) hx hb dX5_join_139 hl (by decide) rfl (fun ls hl => ?_)
                          exact join141 false (by simp [mUnl, c_1, hk3, c_4, hk6, c_7, c_70, hk72, hk74, hpl, c_84, c_85, c_86, c_87, c_88, c_89]) _ _ hW hS ls (lv_sub hl [0, 1, 2, 3, 4, 5, 6] rfl)
            refine lv_aload_n hx hb dX5_join_48 rfl (lv_at hl 0 rfl) ?_
            refine lv_iload_n hx hb dX5_join_49 rfl (lv_at hl 1 rfl) ?_
            refine w_cV1 X hS (m_X5_isPlain l G ad nA nK mA mK E I J i3 hs (by first | assumption | omega)) rfl rfl g619 g4 g616 g618 p31 hd_X5_isPlain ⟨Nat.le_of_ble_eq_true rfl, Nat.le_of_ble_eq_true rfl⟩ (k_rec X hW 13 0 Nat.zero_lt_one rfl rfl) hW hl.1 rfl (Nat.le_of_ble_eq_true rfl) dX5_join_50 (Nat.zero_le _) (Nat.zero_le _) (fun H locs hW hS => ?_)
            refine lb_if_eq (tgt := 94) hx hb dX5_join_53 (by decide) (fun c_91 => ?_) (fun c_91 => ?_)
            · skip
              refine lv_iconst (v := 0) hx hb dX5_join_94 (by decide) ?_
              refine lv_istore (lv' := [(5, .int 0), (0, .ref (ad 13 0)), (1, .int (nI i3)), (2, .int (nI i6)), (3, .int (nI i72)), (4, .int ((-1)))]) hx hb dX5_join_95 hl (by decide) rfl (fun ls hl => ?_)
              have join141 : ∀ (un : Bool), (un = mUnl (nI i3) (nI i6) (nI i72) (-1)) → ∀ (H : Heap) (locs : List Loc), Wd G ad nA nK I J H → va_S (k_A G) s.heap H locs → ∀ ls : Array Slot, lv_has ls 8 [(6, .int (k_b un)), (5, .int 0), (0, .ref (ad 13 0)), (1, .int (nI i3)), (2, .int (nI i6)), (3, .int (nI i72)), (4, .int ((-1)))] → W p l e { frames := 2, cells := 0, slots := 0, locals := 46 } s m ([.ref (ad 13 0), .int (nI i3), .int (nI i6), .int (nI i72), .int (-1)] : List Value).toArray below meth c H locs 0 0 (MQ below (k_Q G (some (.int ((mcJoin mA (nI i3) (nI i6) (nI i72) (-1) (I, J)).1))) (Wd G ad nA nK ((mcJoin mA (nI i3) (nI i6) (nI i72) (-1) (I, J)).2.1) ((mcJoin mA (nI i3) (nI i6) (nI i72) (-1) (I, J)).2.2))) ([.ref (ad 13 0), .int (nI i3), .int (nI i6), .int (nI i72), .int (-1)] : List Value).toArray s 0 0 (k_A G)) (F0 m 141 ls []) := by
                intro un hun H locs hW hS ls hl
                refine lv_iload hx hb dX5_join_141 (lv_at hl 1 rfl) ?_
                refine lv_if_eq (tgt := 160) hx hb dX5_join_143 (by decide) (fun _ => ?_) (fun c_92 => absurd (by decide) c_92)
                refine lv_sipush (v := (-1003)) hx hb dX5_join_160 (by decide) ?_
                exact w_iret X hr hlk hS (by first | rfl | (simp [mcJoin, mJoI, mw, c_1, hk3, c_4, hk6, c_7, c_70, hk72, hk74, c_91, hun]; done) | (simp [mcJoin, mJoI, mw, c_1, hk3, c_4, hk6, c_7, c_70, hk72, hk74, c_91, hun]; rfl)) (hW.to (by first | rfl | (simp [mcJoin, mJoI, mw, c_1, hk3, c_4, hk6, c_7, c_70, hk72, hk74, c_91, hun]; done)) (by first | rfl | (simp [mcJoin, mJoI, mw, c_1, hk3, c_4, hk6, c_7, c_70, hk72, hk74, c_91, hun]; done))) dX5_join_163
              exact join97 false (by simp [mPlX, c_1, hk3, c_4, hk6, c_7, c_70, hk72, hk74, c_91]) _ _ hW hS ls (lv_sub hl [0, 1, 2, 3, 4, 5] rfl)
            · skip
              refine lv_aload_n hx hb dX5_join_56 rfl (lv_at hl 0 rfl) ?_
              refine lv_iload_n hx hb dX5_join_57 rfl (lv_at hl 2 rfl) ?_
              refine w_cV1 X hS (m_X5_isPlain l G ad nA nK mA mK E I J i6 hs (by first | assumption | omega)) rfl rfl g619 g4 g616 g618 p31 hd_X5_isPlain ⟨Nat.le_of_ble_eq_true rfl, Nat.le_of_ble_eq_true rfl⟩ (k_rec X hW 13 0 Nat.zero_lt_one rfl rfl) hW hl.1 rfl (Nat.le_of_ble_eq_true rfl) dX5_join_58 (Nat.zero_le _) (Nat.zero_le _) (fun H locs hW hS => ?_)
              refine lb_if_eq (tgt := 94) hx hb dX5_join_61 (by decide) (fun c_93 => ?_) (fun c_93 => ?_)
              · skip
                refine lv_iconst (v := 0) hx hb dX5_join_94 (by decide) ?_
                refine lv_istore (lv' := [(5, .int 0), (0, .ref (ad 13 0)), (1, .int (nI i3)), (2, .int (nI i6)), (3, .int (nI i72)), (4, .int ((-1)))]) hx hb dX5_join_95 hl (by decide) rfl (fun ls hl => ?_)
                have join141 : ∀ (un : Bool), (un = mUnl (nI i3) (nI i6) (nI i72) (-1)) → ∀ (H : Heap) (locs : List Loc), Wd G ad nA nK I J H → va_S (k_A G) s.heap H locs → ∀ ls : Array Slot, lv_has ls 8 [(6, .int (k_b un)), (5, .int 0), (0, .ref (ad 13 0)), (1, .int (nI i3)), (2, .int (nI i6)), (3, .int (nI i72)), (4, .int ((-1)))] → W p l e { frames := 2, cells := 0, slots := 0, locals := 46 } s m ([.ref (ad 13 0), .int (nI i3), .int (nI i6), .int (nI i72), .int (-1)] : List Value).toArray below meth c H locs 0 0 (MQ below (k_Q G (some (.int ((mcJoin mA (nI i3) (nI i6) (nI i72) (-1) (I, J)).1))) (Wd G ad nA nK ((mcJoin mA (nI i3) (nI i6) (nI i72) (-1) (I, J)).2.1) ((mcJoin mA (nI i3) (nI i6) (nI i72) (-1) (I, J)).2.2))) ([.ref (ad 13 0), .int (nI i3), .int (nI i6), .int (nI i72), .int (-1)] : List Value).toArray s 0 0 (k_A G)) (F0 m 141 ls []) := by
                  intro un hun H locs hW hS ls hl
                  refine lv_iload hx hb dX5_join_141 (lv_at hl 1 rfl) ?_
                  refine lv_if_eq (tgt := 160) hx hb dX5_join_143 (by decide) (fun _ => ?_) (fun c_94 => absurd (by decide) c_94)
                  refine lv_sipush (v := (-1003)) hx hb dX5_join_160 (by decide) ?_
                  exact w_iret X hr hlk hS (by first | rfl | (simp [mcJoin, mJoI, mw, c_1, hk3, c_4, hk6, c_7, c_70, hk72, hk74, c_91, c_93, hun]; done) | (simp [mcJoin, mJoI, mw, c_1, hk3, c_4, hk6, c_7, c_70, hk72, hk74, c_91, c_93, hun]; rfl)) (hW.to (by first | rfl | (simp [mcJoin, mJoI, mw, c_1, hk3, c_4, hk6, c_7, c_70, hk72, hk74, c_91, c_93, hun]; done)) (by first | rfl | (simp [mcJoin, mJoI, mw, c_1, hk3, c_4, hk6, c_7, c_70, hk72, hk74, c_91, c_93, hun]; done))) dX5_join_163
                exact join97 false (by simp [mPlX, c_1, hk3, c_4, hk6, c_7, c_70, hk72, hk74, c_91, c_93]) _ _ hW hS ls (lv_sub hl [0, 1, 2, 3, 4, 5] rfl)
              · skip
                refine lv_iload_n hx hb dX5_join_64 rfl (lv_at hl 3 rfl) ?_
                refine lv_if_lt (tgt := 76) hx hb dX5_join_65 (by decide) (fun c_95 => absurd c_95 (nI_pos (by omega))) (fun _ => ?_)
                refine lv_aload_n hx hb dX5_join_68 rfl (lv_at hl 0 rfl) ?_
                refine lv_iload_n hx hb dX5_join_69 rfl (lv_at hl 3 rfl) ?_
                refine w_cV1 X hS (m_X5_isPlain l G ad nA nK mA mK E I J i72 hs (by first | assumption | omega)) rfl rfl g619 g4 g616 g618 p31 hd_X5_isPlain ⟨Nat.le_of_ble_eq_true rfl, Nat.le_of_ble_eq_true rfl⟩ (k_rec X hW 13 0 Nat.zero_lt_one rfl rfl) hW hl.1 rfl (Nat.le_of_ble_eq_true rfl) dX5_join_70 (Nat.zero_le _) (Nat.zero_le _) (fun H locs hW hS => ?_)
                refine lb_if_eq (tgt := 94) hx hb dX5_join_73 (by decide) (fun c_96 => ?_) (fun c_96 => ?_)
                · skip
                  refine lv_iconst (v := 0) hx hb dX5_join_94 (by decide) ?_
                  refine lv_istore (lv' := [(5, .int 0), (0, .ref (ad 13 0)), (1, .int (nI i3)), (2, .int (nI i6)), (3, .int (nI i72)), (4, .int ((-1)))]) hx hb dX5_join_95 hl (by decide) rfl (fun ls hl => ?_)
                  have join141 : ∀ (un : Bool), (un = mUnl (nI i3) (nI i6) (nI i72) (-1)) → ∀ (H : Heap) (locs : List Loc), Wd G ad nA nK I J H → va_S (k_A G) s.heap H locs → ∀ ls : Array Slot, lv_has ls 8 [(6, .int (k_b un)), (5, .int 0), (0, .ref (ad 13 0)), (1, .int (nI i3)), (2, .int (nI i6)), (3, .int (nI i72)), (4, .int ((-1)))] → W p l e { frames := 2, cells := 0, slots := 0, locals := 46 } s m ([.ref (ad 13 0), .int (nI i3), .int (nI i6), .int (nI i72), .int (-1)] : List Value).toArray below meth c H locs 0 0 (MQ below (k_Q G (some (.int ((mcJoin mA (nI i3) (nI i6) (nI i72) (-1) (I, J)).1))) (Wd G ad nA nK ((mcJoin mA (nI i3) (nI i6) (nI i72) (-1) (I, J)).2.1) ((mcJoin mA (nI i3) (nI i6) (nI i72) (-1) (I, J)).2.2))) ([.ref (ad 13 0), .int (nI i3), .int (nI i6), .int (nI i72), .int (-1)] : List Value).toArray s 0 0 (k_A G)) (F0 m 141 ls []) := by
                    intro un hun H locs hW hS ls hl
                    refine lv_iload hx hb dX5_join_141 (lv_at hl 1 rfl) ?_
                    refine lv_if_eq (tgt := 160) hx hb dX5_join_143 (by decide) (fun _ => ?_) (fun c_97 => absurd (by decide) c_97)
                    refine lv_sipush (v := (-1003)) hx hb dX5_join_160 (by decide) ?_
                    exact w_iret X hr hlk hS (by first | rfl | (simp [mcJoin, mJoI, mw, c_1, hk3, c_4, hk6, c_7, c_70, hk72, hk74, c_91, c_93, c_96, hun]; done) | (simp [mcJoin, mJoI, mw, c_1, hk3, c_4, hk6, c_7, c_70, hk72, hk74, c_91, c_93, c_96, hun]; rfl)) (hW.to (by first | rfl | (simp [mcJoin, mJoI, mw, c_1, hk3, c_4, hk6, c_7, c_70, hk72, hk74, c_91, c_93, c_96, hun]; done)) (by first | rfl | (simp [mcJoin, mJoI, mw, c_1, hk3, c_4, hk6, c_7, c_70, hk72, hk74, c_91, c_93, c_96, hun]; done))) dX5_join_163
                  exact join97 false (by simp [mPlX, c_1, hk3, c_4, hk6, c_7, c_70, hk72, hk74, c_91, c_93, c_96]) _ _ hW hS ls (lv_sub hl [0, 1, 2, 3, 4, 5] rfl)
                · skip
                  refine lv_iload hx hb dX5_join_76 (lv_at hl 4 rfl) ?_
                  refine lv_if_lt (tgt := 90) hx hb dX5_join_78 (by decide) (fun _ => ?_) (fun c_98 => absurd (by decide) c_98)
                  refine lv_iconst (v := 1) hx hb dX5_join_90 (by decide) ?_
                  refine lv_goto (tgt := 95) hx hb dX5_join_91 (by decide) ?_
                  refine lv_istore (lv' := [(5, .int 1), (0, .ref (ad 13 0)), (1, .int (nI i3)), (2, .int (nI i6)), (3, .int (nI i72)), (4, .int ((-1)))]) hx hb dX5_join_95 hl (by decide) rfl (fun ls hl => ?_)
                  have join141 : ∀ (un : Bool), (un = mUnl (nI i3) (nI i6) (nI i72) (-1)) → ∀ (H : Heap) (locs : List Loc), Wd G ad nA nK I J H → va_S (k_A G) s.heap H locs → ∀ ls : Array Slot, lv_has ls 8 [(6, .int (k_b un)), (5, .int 1), (0, .ref (ad 13 0)), (1, .int (nI i3)), (2, .int (nI i6)), (3, .int (nI i72)), (4, .int ((-1)))] → W p l e { frames := 2, cells := 0, slots := 0, locals := 46 } s m ([.ref (ad 13 0), .int (nI i3), .int (nI i6), .int (nI i72), .int (-1)] : List Value).toArray below meth c H locs 0 0 (MQ below (k_Q G (some (.int ((mcJoin mA (nI i3) (nI i6) (nI i72) (-1) (I, J)).1))) (Wd G ad nA nK ((mcJoin mA (nI i3) (nI i6) (nI i72) (-1) (I, J)).2.1) ((mcJoin mA (nI i3) (nI i6) (nI i72) (-1) (I, J)).2.2))) ([.ref (ad 13 0), .int (nI i3), .int (nI i6), .int (nI i72), .int (-1)] : List Value).toArray s 0 0 (k_A G)) (F0 m 141 ls []) := by
                    intro un hun H locs hW hS ls hl
                    refine lv_iload hx hb dX5_join_141 (lv_at hl 1 rfl) ?_
                    refine lv_if_eq (tgt := 160) hx hb dX5_join_143 (by decide) (fun c_99 => absurd c_99 (by decide)) (fun _ => ?_)
                    refine lv_iload hx hb dX5_join_146 (lv_at hl 0 rfl) ?_
                    refine lb_if_eq (tgt := 160) hx hb dX5_join_148 (by decide) (fun c_100 => ?_) (fun c_100 => ?_)
                    · skip
                      refine lv_sipush (v := (-1003)) hx hb dX5_join_160 (by decide) ?_
                      exact w_iret X hr hlk hS (by first | rfl | (simp [mcJoin, mJoI, mw, c_1, hk3, c_4, hk6, c_7, c_70, hk72, hk74, c_91, c_93, c_96, hun, c_100]; done) | (simp [mcJoin, mJoI, mw, c_1, hk3, c_4, hk6, c_7, c_70, hk72, hk74, c_91, c_93, c_96, hun, c_100]; rfl)) (hW.to (by first | rfl | (simp [mcJoin, mJoI, mw, c_1, hk3, c_4, hk6, c_7, c_70, hk72, hk74, c_91, c_93, c_96, hun, c_100]; done)) (by first | rfl | (simp [mcJoin, mJoI, mw, c_1, hk3, c_4, hk6, c_7, c_70, hk72, hk74, c_91, c_93, c_96, hun, c_100]; done))) dX5_join_163
                    · skip
                      refine lv_iload_n hx hb dX5_join_151 rfl (lv_at hl 5 rfl) ?_
                      refine lv_if_ge (tgt := 164) hx hb dX5_join_152 (by decide) (fun _ => ?_) (fun c_101 => absurd (nI_pos' (by omega)) c_101)
                      refine lv_aload_n hx hb dX5_join_164 rfl (lv_at hl 2 rfl) ?_
                      refine w_get (v := .int (nI mA)) X hW 13 0 Nat.zero_lt_one rfl rfl inG5 6 (by decide) g504 (congrArg (fun z => some (Value.int z)) hs.1) dX5_join_165 ?_
                      refine lv_bipush (v := 24) hx hb dX5_join_168 (by decide) ?_
                      refine lv_icmp_ne (tgt := 177) hx hb dX5_join_170 (by decide) (fun c_102 => ?_) (fun c_102 => ?_)
                      · skip
                        have h24 : mA < 24 := nI_full (N := 24) (by omega) (by decide) rfl c_102
                        refine lv_aload_n hx hb dX5_join_177 rfl (lv_at hl 2 rfl) ?_
                        refine lv_iconst (v := 1) hx hb dX5_join_178 (by decide) ?_
                        refine w_cV1 X hS (m_X5_fresh l G ad nA nK mA mK E I J 1 hs (by first | assumption | omega)) rfl rfl g607 g4 g604 g606 p29 hd_X5_fresh ⟨Nat.le_of_ble_eq_true rfl, Nat.le_of_ble_eq_true rfl⟩ (k_rec X hW 13 0 Nat.zero_lt_one rfl rfl) hW hl.1 rfl (Nat.le_of_ble_eq_true rfl) dX5_join_179 (Nat.zero_le _) (Nat.zero_le _) (fun H locs hW hS => ?_)
                        obtain ⟨I103, eI103⟩ : ∃ z, z = mFr mA 1 I := ⟨_, rfl⟩
                        rw [← eI103] at hW
                        have hs103 : m_S mA mK E I103 := by rw [eI103]; exact sorry
                        obtain ⟨J103, eJ103⟩ : ∃ z, z = mFrJ mA J := ⟨_, rfl⟩
                        rw [← eJ103] at hW
                        refine lv_istore (lv' := [(7, .int (nI mA)), (6, .int (k_b un)), (5, .int 1), (0, .ref (ad 13 0)), (1, .int (nI i3)), (2, .int (nI i6)), (3, .int (nI i72)), (4, .int ((-1)))]) hx hb dX5_join_182 hl (by decide) rfl (fun ls hl => ?_)
                        refine lv_aload_n hx hb dX5_join_184 rfl (lv_at hl 3 rfl) ?_
                        refine w_get X hW 13 0 Nat.zero_lt_one rfl rfl inG5 15 (by decide) g513 rfl dX5_join_185 ?_
                        refine lv_iconst (v := 4) hx hb dX5_join_188 (by decide) ?_
                        refine lv_iload hx hb dX5_join_189 (lv_at hl 0 rfl) ?_
                        refine lw_imulN (a := 4) (b := mA) hx hb dX5_join_191 ?_
                        refine lv_iload_n hx hb dX5_join_192 rfl (lv_at hl 4 rfl) ?_
                        refine w_iastN (i := 4 * mA) X hW hS 35 0 Nat.zero_lt_one rfl (by omega) rfl dX5_join_193 (fun H locs hW hS => ?_)
                        obtain ⟨I104, eI104⟩ : ∃ z, z = k_up I103 35 0 (upd (I103 35 0) (4 * mA) (nI i3)) := ⟨_, rfl⟩
                        rw [← eI104] at hW
                        refine lv_aload_n hx hb dX5_join_194 rfl (lv_at hl 3 rfl) ?_
                        refine w_get X hW 13 0 Nat.zero_lt_one rfl rfl inG5 15 (by decide) g513 rfl dX5_join_195 ?_
                        refine lv_iconst (v := 4) hx hb dX5_join_198 (by decide) ?_
                        refine lv_iload hx hb dX5_join_199 (lv_at hl 0 rfl) ?_
                        refine lw_imulN (a := 4) (b := mA) hx hb dX5_join_201 ?_
                        refine lv_iconst (v := 1) hx hb dX5_join_202 (by decide) ?_
                        refine lw_iaddN (a := 4 * mA) (b := 1) hx hb dX5_join_203 ?_
                        refine lv_iload_n hx hb dX5_join_204 rfl (lv_at hl 5 rfl) ?_
                        refine w_iastN (i := 4 * mA + 1) X hW hS 35 0 Nat.zero_lt_one rfl (by omega) rfl dX5_join_205 (fun H locs hW hS => ?_)
                        obtain ⟨I105, eI105⟩ : ∃ z, z = k_up I104 35 0 (upd (I104 35 0) (4 * mA + 1) (nI i6)) := ⟨_, rfl⟩
                        rw [← eI105] at hW
                        refine lv_aload_n hx hb dX5_join_206 rfl (lv_at hl 3 rfl) ?_
                        refine w_get X hW 13 0 Nat.zero_lt_one rfl rfl inG5 15 (by decide) g513 rfl dX5_join_207 ?_
                        refine lv_iconst (v := 4) hx hb dX5_join_210 (by decide) ?_
                        refine lv_iload hx hb dX5_join_211 (lv_at hl 0 rfl) ?_
                        refine lw_imulN (a := 4) (b := mA) hx hb dX5_join_213 ?_
                        refine lv_iconst (v := 2) hx hb dX5_join_214 (by decide) ?_
                        refine lw_iaddN (a := 4 * mA) (b := 2) hx hb dX5_join_215 ?_
                        refine lv_iload_n hx hb dX5_join_216 rfl (lv_at hl 6 rfl) ?_
                        refine w_iastN (i := 4 * mA + 2) X hW hS 35 0 Nat.zero_lt_one rfl (by omega) rfl dX5_join_217 (fun H locs hW hS => ?_)
                        obtain ⟨I106, eI106⟩ : ∃ z, z = k_up I105 35 0 (upd (I105 35 0) (4 * mA + 2) (nI i72)) := ⟨_, rfl⟩
                        rw [← eI106] at hW
                        refine lv_aload_n hx hb dX5_join_218 rfl (lv_at hl 3 rfl) ?_
                        refine w_get X hW 13 0 Nat.zero_lt_one rfl rfl inG5 15 (by decide) g513 rfl dX5_join_219 ?_
                        refine lv_iconst (v := 4) hx hb dX5_join_222 (by decide) ?_
                        refine lv_iload hx hb dX5_join_223 (lv_at hl 0 rfl) ?_
                        refine lw_imulN (a := 4) (b := mA) hx hb dX5_join_225 ?_
                        refine lv_iconst (v := 3) hx hb dX5_join_226 (by decide) ?_
                        refine lw_iaddN (a := 4 * mA) (b := 3) hx hb dX5_join_227 ?_
                        refine lv_iload hx hb dX5_join_228 (lv_at hl 7 rfl) ?_
                        refine w_iastN (i := 4 * mA + 3) X hW hS 35 0 Nat.zero_lt_one rfl (by omega) rfl dX5_join_230 (fun H locs hW hS => ?_)
                        obtain ⟨I107, eI107⟩ : ∃ z, z = k_up I106 35 0 (upd (I106 35 0) (4 * mA + 3) (-1)) := ⟨_, rfl⟩
                        rw [← eI107] at hW
                        refine lv_iload hx hb dX5_join_231 (lv_at hl 0 rfl) ?_
                        exact w_iret X hr hlk hS (by first | rfl | (simp [mcJoin, mJoI, mw, c_1, hk3, c_4, hk6, c_7, c_70, hk72, hk74, c_91, c_93, c_96, hun, c_100, c_102, eI103, eJ103, eI104, eI105, eI106, eI107]; done) | (subst eI107 eI106 eI105 eI104 eJ103 eI103; simp [mcJoin, mJoI, mw, c_1, hk3, c_4, hk6, c_7, c_70, hk72, hk74, c_91, c_93, c_96, hun, c_100, c_102]; done) | (simp [mcJoin, mJoI, mw, c_1, hk3, c_4, hk6, c_7, c_70, hk72, hk74, c_91, c_93, c_96, hun, c_100, c_102, eI103, eJ103, eI104, eI105, eI106, eI107]; rfl)) (hW.to (by first | rfl | (subst eI107 eI106 eI105 eI104 eJ103 eI103; simp [mcJoin, mJoI, mw, c_1, hk3, c_4, hk6, c_7, c_70, hk72, hk74, c_91, c_93, c_96, hun, c_100, c_102]; done) | (subst eI107 eI106 eI105 eI104 eJ103 eI103; rfl) | (subst eI107 eI106 eI105 eI104 eJ103 eI103; simp [mcJoin, mJoI, mw, c_1, hk3, c_4, hk6, c_7, c_70, hk72, hk74, c_91, c_93, c_96, hun, c_100, c_102]; done) | (subst eI107 eI106 eI105 eI104 eJ103 eI103; simp [mcJoin, mJoI, mw, c_1, hk3, c_4, hk6, c_7, c_70, hk72, hk74, c_91, c_93, c_96, hun, c_100, c_102]; rfl) | (simp [mcJoin, mJoI, mw, c_1, hk3, c_4, hk6, c_7, c_70, hk72, hk74, c_91, c_93, c_96, hun, c_100, c_102, eI103, eJ103, eI104, eI105, eI106, eI107]; done)) (by first | rfl | (subst eI107 eI106 eI105 eI104 eJ103 eI103; simp [mcJoin, mJoI, mw, c_1, hk3, c_4, hk6, c_7, c_70, hk72, hk74, c_91, c_93, c_96, hun, c_100, c_102]; done) | (subst eI107 eI106 eI105 eI104 eJ103 eI103; rfl) | (subst eI107 eI106 eI105 eI104 eJ103 eI103; simp [mcJoin, mJoI, mw, c_1, hk3, c_4, hk6, c_7, c_70, hk72, hk74, c_91, c_93, c_96, hun, c_100, c_102]; done) | (subst eI107 eI106 eI105 eI104 eJ103 eI103; simp [mcJoin, mJoI, mw, c_1, hk3, c_4, hk6, c_7, c_70, hk72, hk74, c_91, c_93, c_96, hun, c_100, c_102]; rfl) | (simp [mcJoin, mJoI, mw, c_1, hk3, c_4, hk6, c_7, c_70, hk72, hk74, c_91, c_93, c_96, hun, c_100, c_102, eI103, eJ103, eI104, eI105, eI106, eI107]; done))) dX5_join_233
                      · skip
                        refine lv_sipush (v := (-1004)) hx hb dX5_join_173 (by decide) ?_
                        exact w_iret X hr hlk hS (by first | rfl | (simp [mcJoin, mJoI, mw, c_1, hk3, c_4, hk6, c_7, c_70, hk72, hk74, c_91, c_93, c_96, hun, c_100, c_102]; done) | (simp [mcJoin, mJoI, mw, c_1, hk3, c_4, hk6, c_7, c_70, hk72, hk74, c_91, c_93, c_96, hun, c_100, c_102]; rfl)) (hW.to (by first | rfl | (simp [mcJoin, mJoI, mw, c_1, hk3, c_4, hk6, c_7, c_70, hk72, hk74, c_91, c_93, c_96, hun, c_100, c_102]; done)) (by first | rfl | (simp [mcJoin, mJoI, mw, c_1, hk3, c_4, hk6, c_7, c_70, hk72, hk74, c_91, c_93, c_96, hun, c_100, c_102]; done))) dX5_join_176
                  exact join97 true (by simp [mPlX, c_1, hk3, c_4, hk6, c_7, c_70, hk72, hk74, c_91, c_93, c_96]) _ _ hW hS ls (lv_sub hl [0, 1, 2, 3, 4, 5] rfl)
          · skip
            refine lv_aload_n hx hb dX5_join_35 rfl (lv_at hl 0 rfl) ?_
            refine lv_iload hx hb dX5_join_36 (lv_at hl 4 rfl) ?_
            refine w_cV1 X hS (m_X5_is l G ad nA nK mA mK E I J d9 hs) rfl rfl g615 g4 g612 g614 p30 hd_X5_is ⟨Nat.le_of_ble_eq_true rfl, Nat.le_of_ble_eq_true rfl⟩ (k_rec X hW 13 0 Nat.zero_lt_one rfl rfl) hW hl.1 rfl (Nat.le_of_ble_eq_true rfl) dX5_join_38 (Nat.zero_le _) (Nat.zero_le _) (fun H locs hW hS => ?_)
            refine lb_if_ne (tgt := 48) hx hb dX5_join_41 (by decide) (fun c_108 => ?_) (fun c_108 => ?_)
            · skip
              obtain ⟨i109, hi109, rfl⟩ := mIs_nat (by omega) c_108
              have hk109 : kAns mA (nI i109) = some i109 := kAns_lt hi109 (by omega)
              have hl : lv_has ls 8 [(0, .ref (ad 13 0)), (1, .int (nI i3)), (2, .int (nI i6)), (3, .int (nI i72)), (4, .int (nI i109))] := hl
              have join97 : ∀ (pl : Bool), (pl = (mPlX mA I (nI i3) && (mPlX mA I (nI i6) && (mPlX mA I (nI i72) && mPlX mA I (nI i109))))) → ∀ (H : Heap) (locs : List Loc), Wd G ad nA nK I J H → va_S (k_A G) s.heap H locs → ∀ ls : Array Slot, lv_has ls 8 [(5, .int (k_b pl)), (0, .ref (ad 13 0)), (1, .int (nI i3)), (2, .int (nI i6)), (3, .int (nI i72)), (4, .int (nI i109))] → W p l e { frames := 2, cells := 0, slots := 0, locals := 46 } s m ([.ref (ad 13 0), .int (nI i3), .int (nI i6), .int (nI i72), .int (nI i109)] : List Value).toArray below meth c H locs 0 0 (MQ below (k_Q G (some (.int ((mcJoin mA (nI i3) (nI i6) (nI i72) (nI i109) (I, J)).1))) (Wd G ad nA nK ((mcJoin mA (nI i3) (nI i6) (nI i72) (nI i109) (I, J)).2.1) ((mcJoin mA (nI i3) (nI i6) (nI i72) (nI i109) (I, J)).2.2))) ([.ref (ad 13 0), .int (nI i3), .int (nI i6), .int (nI i72), .int (nI i109)] : List Value).toArray s 0 0 (k_A G)) (F0 m 97 ls []) := by
                intro pl hpl H locs hW hS ls hl
                have join141 : ∀ (un : Bool), (un = mUnl (nI i3) (nI i6) (nI i72) (nI i109)) → ∀ (H : Heap) (locs : List Loc), Wd G ad nA nK I J H → va_S (k_A G) s.heap H locs → ∀ ls : Array Slot, lv_has ls 8 [(6, .int (k_b un)), (5, .int (k_b pl)), (0, .ref (ad 13 0)), (1, .int (nI i3)), (2, .int (nI i6)), (3, .int (nI i72)), (4, .int (nI i109))] → W p l e { frames := 2, cells := 0, slots := 0, locals := 46 } s m ([.ref (ad 13 0), .int (nI i3), .int (nI i6), .int (nI i72), .int (nI i109)] : List Value).toArray below meth c H locs 0 0 (MQ below (k_Q G (some (.int ((mcJoin mA (nI i3) (nI i6) (nI i72) (nI i109) (I, J)).1))) (Wd G ad nA nK ((mcJoin mA (nI i3) (nI i6) (nI i72) (nI i109) (I, J)).2.1) ((mcJoin mA (nI i3) (nI i6) (nI i72) (nI i109) (I, J)).2.2))) ([.ref (ad 13 0), .int (nI i3), .int (nI i6), .int (nI i72), .int (nI i109)] : List Value).toArray s 0 0 (k_A G)) (F0 m 141 ls []) := by
                  intro un hun H locs hW hS ls hl
                  refine lv_iload hx hb dX5_join_141 (lv_at hl 1 rfl) ?_
                  refine lb_if_eq (tgt := 160) hx hb dX5_join_143 (by decide) (fun c_110 => ?_) (fun c_110 => ?_)
                  · skip
                    refine lv_sipush (v := (-1003)) hx hb dX5_join_160 (by decide) ?_
                    exact w_iret X hr hlk hS (by first | rfl | (simp [mcJoin, mJoI, mw, c_1, hk3, c_4, hk6, c_7, c_70, hk72, c_73, c_108, hk109, hpl, hun, c_110]; done) | (simp [mcJoin, mJoI, mw, c_1, hk3, c_4, hk6, c_7, c_70, hk72, c_73, c_108, hk109, hpl, hun, c_110]; rfl)) (hW.to (by first | rfl | (simp [mcJoin, mJoI, mw, c_1, hk3, c_4, hk6, c_7, c_70, hk72, c_73, c_108, hk109, hpl, hun, c_110]; done)) (by first | rfl | (simp [mcJoin, mJoI, mw, c_1, hk3, c_4, hk6, c_7, c_70, hk72, c_73, c_108, hk109, hpl, hun, c_110]; done))) dX5_join_163
                  · skip
                    refine lv_iload hx hb dX5_join_146 (lv_at hl 0 rfl) ?_
                    refine lb_if_eq (tgt := 160) hx hb dX5_join_148 (by decide) (fun c_111 => ?_) (fun c_111 => ?_)
                    · skip
                      refine lv_sipush (v := (-1003)) hx hb dX5_join_160 (by decide) ?_
                      exact w_iret X hr hlk hS (by first | rfl | (simp [mcJoin, mJoI, mw, c_1, hk3, c_4, hk6, c_7, c_70, hk72, c_73, c_108, hk109, hpl, hun, c_110, c_111]; done) | (simp [mcJoin, mJoI, mw, c_1, hk3, c_4, hk6, c_7, c_70, hk72, c_73, c_108, hk109, hpl, hun, c_110, c_111]; rfl)) (hW.to (by first | rfl | (simp [mcJoin, mJoI, mw, c_1, hk3, c_4, hk6, c_7, c_70, hk72, c_73, c_108, hk109, hpl, hun, c_110, c_111]; done)) (by first | rfl | (simp [mcJoin, mJoI, mw, c_1, hk3, c_4, hk6, c_7, c_70, hk72, c_73, c_108, hk109, hpl, hun, c_110, c_111]; done))) dX5_join_163
                    · skip
                      refine lv_iload_n hx hb dX5_join_151 rfl (lv_at hl 5 rfl) ?_
                      refine lv_if_ge (tgt := 164) hx hb dX5_join_152 (by decide) (fun _ => ?_) (fun c_112 => absurd (nI_pos' (by omega)) c_112)
                      refine lv_aload_n hx hb dX5_join_164 rfl (lv_at hl 2 rfl) ?_
                      refine w_get (v := .int (nI mA)) X hW 13 0 Nat.zero_lt_one rfl rfl inG5 6 (by decide) g504 (congrArg (fun z => some (Value.int z)) hs.1) dX5_join_165 ?_
                      refine lv_bipush (v := 24) hx hb dX5_join_168 (by decide) ?_
                      refine lv_icmp_ne (tgt := 177) hx hb dX5_join_170 (by decide) (fun c_113 => ?_) (fun c_113 => ?_)
                      · skip
                        have h24 : mA < 24 := nI_full (N := 24) (by omega) (by decide) rfl c_113
                        refine lv_aload_n hx hb dX5_join_177 rfl (lv_at hl 2 rfl) ?_
                        refine lv_iconst (v := 1) hx hb dX5_join_178 (by decide) ?_
                        refine w_cV1 X hS (m_X5_fresh l G ad nA nK mA mK E I J 1 hs (by first | assumption | omega)) rfl rfl g607 g4 g604 g606 p29 hd_X5_fresh ⟨Nat.le_of_ble_eq_true rfl, Nat.le_of_ble_eq_true rfl⟩ (k_rec X hW 13 0 Nat.zero_lt_one rfl rfl) hW hl.1 rfl (Nat.le_of_ble_eq_true rfl) dX5_join_179 (Nat.zero_le _) (Nat.zero_le _) (fun H locs hW hS => ?_)
                        obtain ⟨I114, eI114⟩ : ∃ z, z = mFr mA 1 I := ⟨_, rfl⟩
                        rw [← eI114] at hW
                        have hs114 : m_S mA mK E I114 := by rw [eI114]; exact sorry
                        obtain ⟨J114, eJ114⟩ : ∃ z, z = mFrJ mA J := ⟨_, rfl⟩
                        rw [← eJ114] at hW
                        refine lv_istore (lv' := [(7, .int (nI mA)), (6, .int (k_b un)), (5, .int (k_b pl)), (0, .ref (ad 13 0)), (1, .int (nI i3)), (2, .int (nI i6)), (3, .int (nI i72)), (4, .int (nI i109))]) hx hb dX5_join_182 hl (by decide) rfl (fun ls hl => ?_)
                        refine lv_aload_n hx hb dX5_join_184 rfl (lv_at hl 3 rfl) ?_
                        refine w_get X hW 13 0 Nat.zero_lt_one rfl rfl inG5 15 (by decide) g513 rfl dX5_join_185 ?_
                        refine lv_iconst (v := 4) hx hb dX5_join_188 (by decide) ?_
                        refine lv_iload hx hb dX5_join_189 (lv_at hl 0 rfl) ?_
                        refine lw_imulN (a := 4) (b := mA) hx hb dX5_join_191 ?_
                        refine lv_iload_n hx hb dX5_join_192 rfl (lv_at hl 4 rfl) ?_
                        refine w_iastN (i := 4 * mA) X hW hS 35 0 Nat.zero_lt_one rfl (by omega) rfl dX5_join_193 (fun H locs hW hS => ?_)
                        obtain ⟨I115, eI115⟩ : ∃ z, z = k_up I114 35 0 (upd (I114 35 0) (4 * mA) (nI i3)) := ⟨_, rfl⟩
                        rw [← eI115] at hW
                        refine lv_aload_n hx hb dX5_join_194 rfl (lv_at hl 3 rfl) ?_
                        refine w_get X hW 13 0 Nat.zero_lt_one rfl rfl inG5 15 (by decide) g513 rfl dX5_join_195 ?_
                        refine lv_iconst (v := 4) hx hb dX5_join_198 (by decide) ?_
                        refine lv_iload hx hb dX5_join_199 (lv_at hl 0 rfl) ?_
                        refine lw_imulN (a := 4) (b := mA) hx hb dX5_join_201 ?_
                        refine lv_iconst (v := 1) hx hb dX5_join_202 (by decide) ?_
                        refine lw_iaddN (a := 4 * mA) (b := 1) hx hb dX5_join_203 ?_
                        refine lv_iload_n hx hb dX5_join_204 rfl (lv_at hl 5 rfl) ?_
                        refine w_iastN (i := 4 * mA + 1) X hW hS 35 0 Nat.zero_lt_one rfl (by omega) rfl dX5_join_205 (fun H locs hW hS => ?_)
                        obtain ⟨I116, eI116⟩ : ∃ z, z = k_up I115 35 0 (upd (I115 35 0) (4 * mA + 1) (nI i6)) := ⟨_, rfl⟩
                        rw [← eI116] at hW
                        refine lv_aload_n hx hb dX5_join_206 rfl (lv_at hl 3 rfl) ?_
                        refine w_get X hW 13 0 Nat.zero_lt_one rfl rfl inG5 15 (by decide) g513 rfl dX5_join_207 ?_
                        refine lv_iconst (v := 4) hx hb dX5_join_210 (by decide) ?_
                        refine lv_iload hx hb dX5_join_211 (lv_at hl 0 rfl) ?_
                        refine lw_imulN (a := 4) (b := mA) hx hb dX5_join_213 ?_
                        refine lv_iconst (v := 2) hx hb dX5_join_214 (by decide) ?_
                        refine lw_iaddN (a := 4 * mA) (b := 2) hx hb dX5_join_215 ?_
                        refine lv_iload_n hx hb dX5_join_216 rfl (lv_at hl 6 rfl) ?_
                        refine w_iastN (i := 4 * mA + 2) X hW hS 35 0 Nat.zero_lt_one rfl (by omega) rfl dX5_join_217 (fun H locs hW hS => ?_)
                        obtain ⟨I117, eI117⟩ : ∃ z, z = k_up I116 35 0 (upd (I116 35 0) (4 * mA + 2) (nI i72)) := ⟨_, rfl⟩
                        rw [← eI117] at hW
                        refine lv_aload_n hx hb dX5_join_218 rfl (lv_at hl 3 rfl) ?_
                        refine w_get X hW 13 0 Nat.zero_lt_one rfl rfl inG5 15 (by decide) g513 rfl dX5_join_219 ?_
                        refine lv_iconst (v := 4) hx hb dX5_join_222 (by decide) ?_
                        refine lv_iload hx hb dX5_join_223 (lv_at hl 0 rfl) ?_
                        refine lw_imulN (a := 4) (b := mA) hx hb dX5_join_225 ?_
                        refine lv_iconst (v := 3) hx hb dX5_join_226 (by decide) ?_
                        refine lw_iaddN (a := 4 * mA) (b := 3) hx hb dX5_join_227 ?_
                        refine lv_iload hx hb dX5_join_228 (lv_at hl 7 rfl) ?_
                        refine w_iastN (i := 4 * mA + 3) X hW hS 35 0 Nat.zero_lt_one rfl (by omega) rfl dX5_join_230 (fun H locs hW hS => ?_)
                        obtain ⟨I118, eI118⟩ : ∃ z, z = k_up I117 35 0 (upd (I117 35 0) (4 * mA + 3) (nI i109)) := ⟨_, rfl⟩
                        rw [← eI118] at hW
                        refine lv_iload hx hb dX5_join_231 (lv_at hl 0 rfl) ?_
                        exact w_iret X hr hlk hS (by first | rfl | (simp [mcJoin, mJoI, mw, c_1, hk3, c_4, hk6, c_7, c_70, hk72, c_73, c_108, hk109, hpl, hun, c_110, c_111, c_113, eI114, eJ114, eI115, eI116, eI117, eI118]; done) | (subst eI118 eI117 eI116 eI115 eJ114 eI114; simp [mcJoin, mJoI, mw, c_1, hk3, c_4, hk6, c_7, c_70, hk72, c_73, c_108, hk109, hpl, hun, c_110, c_111, c_113]; done) | (simp [mcJoin, mJoI, mw, c_1, hk3, c_4, hk6, c_7, c_70, hk72, c_73, c_108, hk109, hpl, hun, c_110, c_111, c_113, eI114, eJ114, eI115, eI116, eI117, eI118]; rfl)) (hW.to (by first | rfl | (subst eI118 eI117 eI116 eI115 eJ114 eI114; simp [mcJoin, mJoI, mw, c_1, hk3, c_4, hk6, c_7, c_70, hk72, c_73, c_108, hk109, hpl, hun, c_110, c_111, c_113]; done) | (subst eI118 eI117 eI116 eI115 eJ114 eI114; rfl) | (subst eI118 eI117 eI116 eI115 eJ114 eI114; simp [mcJoin, mJoI, mw, c_1, hk3, c_4, hk6, c_7, c_70, hk72, c_73, c_108, hk109, hpl, hun, c_110, c_111, c_113]; done) | (subst eI118 eI117 eI116 eI115 eJ114 eI114; simp [mcJoin, mJoI, mw, c_1, hk3, c_4, hk6, c_7, c_70, hk72, c_73, c_108, hk109, hpl, hun, c_110, c_111, c_113]; rfl) | (simp [mcJoin, mJoI, mw, c_1, hk3, c_4, hk6, c_7, c_70, hk72, c_73, c_108, hk109, hpl, hun, c_110, c_111, c_113, eI114, eJ114, eI115, eI116, eI117, eI118]; done)) (by first | rfl | (subst eI118 eI117 eI116 eI115 eJ114 eI114; simp [mcJoin, mJoI, mw, c_1, hk3, c_4, hk6, c_7, c_70, hk72, c_73, c_108, hk109, hpl, hun, c_110, c_111, c_113]; done) | (subst eI118 eI117 eI116 eI115 eJ114 eI114; rfl) | (subst eI118 eI117 eI116 eI115 eJ114 eI114; simp [mcJoin, mJoI, mw, c_1, hk3, c_4, hk6, c_7, c_70, hk72, c_73, c_108, hk109, hpl, hun, c_110, c_111, c_113]; done) | (subst eI118 eI117 eI116 eI115 eJ114 eI114; simp [mcJoin, mJoI, mw, c_1, hk3, c_4, hk6, c_7, c_70, hk72, c_73, c_108, hk109, hpl, hun, c_110, c_111, c_113]; rfl) | (simp [mcJoin, mJoI, mw, c_1, hk3, c_4, hk6, c_7, c_70, hk72, c_73, c_108, hk109, hpl, hun, c_110, c_111, c_113, eI114, eJ114, eI115, eI116, eI117, eI118]; done))) dX5_join_233
                      · skip
                        refine lv_sipush (v := (-1004)) hx hb dX5_join_173 (by decide) ?_
                        exact w_iret X hr hlk hS (by first | rfl | (simp [mcJoin, mJoI, mw, c_1, hk3, c_4, hk6, c_7, c_70, hk72, c_73, c_108, hk109, hpl, hun, c_110, c_111, c_113]; done) | (simp [mcJoin, mJoI, mw, c_1, hk3, c_4, hk6, c_7, c_70, hk72, c_73, c_108, hk109, hpl, hun, c_110, c_111, c_113]; rfl)) (hW.to (by first | rfl | (simp [mcJoin, mJoI, mw, c_1, hk3, c_4, hk6, c_7, c_70, hk72, c_73, c_108, hk109, hpl, hun, c_110, c_111, c_113]; done)) (by first | rfl | (simp [mcJoin, mJoI, mw, c_1, hk3, c_4, hk6, c_7, c_70, hk72, c_73, c_108, hk109, hpl, hun, c_110, c_111, c_113]; done))) dX5_join_176
                refine lv_iload_n hx hb dX5_join_97 rfl (lv_at hl 2 rfl) ?_
                refine lv_iload_n hx hb dX5_join_98 rfl (lv_at hl 3 rfl) ?_
                refine lv_icmp_eq (tgt := 138) hx hb dX5_join_99 (by decide) (fun c_119 => ?_) (fun c_119 => ?_)
                · skip
                  refine lv_iconst (v := 0) hx hb dX5_join_138 (by decide) ?_
                  refine lv_istore (lv' := [(6, .int 0), (5, .int (k_b pl)), (0, .ref (ad 13 0)), (1, .int (nI i3)), (2, .int (nI i6)), (3, .int (nI i72)), (4, .int (nI i109))]) hx hb dX5_join_139 hl (by decide) rfl (fun ls hl => ?_)
                  exact join141 false (by simp [mUnl, c_1, hk3, c_4, hk6, c_7, c_70, hk72, c_73, c_108, hk109, hpl, c_119]) _ _ hW hS ls (lv_sub hl [0, 1, 2, 3, 4, 5, 6] rfl)
                · skip
                  refine lv_iload_n hx hb dX5_join_102 rfl (lv_at hl 2 rfl) ?_
                  refine lv_iload_n hx hb dX5_join_103 rfl (lv_at hl 4 rfl) ?_
                  refine lv_icmp_eq (tgt := 138) hx hb dX5_join_104 (by decide) (fun c_120 => ?_) (fun c_120 => ?_)
                  · skip
                    refine lv_iconst (v := 0) hx hb dX5_join_138 (by decide) ?_
                    refine lv_istore (lv' := [(6, .int 0), (5, .int (k_b pl)), (0, .ref (ad 13 0)), (1, .int (nI i3)), (2, .int (nI i6)), (3, .int (nI i72)), (4, .int (nI i109))]) hx hb dX5_join_139 hl (by decide) rfl (fun ls hl => ?_)
                    exact join141 false (by simp [mUnl, c_1, hk3, c_4, hk6, c_7, c_70, hk72, c_73, c_108, hk109, hpl, c_119, c_120]) _ _ hW hS ls (lv_sub hl [0, 1, 2, 3, 4, 5, 6] rfl)
                  · skip
                    refine lv_iload_n hx hb dX5_join_107 rfl (lv_at hl 3 rfl) ?_
                    refine lv_iload_n hx hb dX5_join_108 rfl (lv_at hl 4 rfl) ?_
                    refine lv_icmp_eq (tgt := 138) hx hb dX5_join_109 (by decide) (fun c_121 => ?_) (fun c_121 => ?_)
                    · skip
                      refine lv_iconst (v := 0) hx hb dX5_join_138 (by decide) ?_
                      refine lv_istore (lv' := [(6, .int 0), (5, .int (k_b pl)), (0, .ref (ad 13 0)), (1, .int (nI i3)), (2, .int (nI i6)), (3, .int (nI i72)), (4, .int (nI i109))]) hx hb dX5_join_139 hl (by decide) rfl (fun ls hl => ?_)
                      exact join141 false (by simp [mUnl, c_1, hk3, c_4, hk6, c_7, c_70, hk72, c_73, c_108, hk109, hpl, c_119, c_120, c_121]) _ _ hW hS ls (lv_sub hl [0, 1, 2, 3, 4, 5, 6] rfl)
                    · skip
                      refine lv_iload_n hx hb dX5_join_112 rfl (lv_at hl 2 rfl) ?_
                      refine lv_iload hx hb dX5_join_113 (lv_at hl 5 rfl) ?_
                      refine lv_icmp_eq (tgt := 138) hx hb dX5_join_115 (by decide) (fun c_122 => ?_) (fun c_122 => ?_)
                      · skip
                        refine lv_iconst (v := 0) hx hb dX5_join_138 (by decide) ?_
                        refine lv_istore (lv' := [(6, .int 0), (5, .int (k_b pl)), (0, .ref (ad 13 0)), (1, .int (nI i3)), (2, .int (nI i6)), (3, .int (nI i72)), (4, .int (nI i109))]) hx hb dX5_join_139 hl (by decide) rfl (fun ls hl => ?_)
                        exact join141 false (by simp [mUnl, c_1, hk3, c_4, hk6, c_7, c_70, hk72, c_73, c_108, hk109, hpl, c_119, c_120, c_121, c_122]) _ _ hW hS ls (lv_sub hl [0, 1, 2, 3, 4, 5, 6] rfl)
                      · skip
                        refine lv_iload_n hx hb dX5_join_118 rfl (lv_at hl 3 rfl) ?_
                        refine lv_iload hx hb dX5_join_119 (lv_at hl 5 rfl) ?_
                        refine lv_icmp_eq (tgt := 138) hx hb dX5_join_121 (by decide) (fun c_123 => ?_) (fun c_123 => ?_)
                        · skip
                          refine lv_iconst (v := 0) hx hb dX5_join_138 (by decide) ?_
                          refine lv_istore (lv' := [(6, .int 0), (5, .int (k_b pl)), (0, .ref (ad 13 0)), (1, .int (nI i3)), (2, .int (nI i6)), (3, .int (nI i72)), (4, .int (nI i109))]) hx hb dX5_join_139 hl (by decide) rfl (fun ls hl => ?_)
                          exact join141 false (by simp [mUnl, c_1, hk3, c_4, hk6, c_7, c_70, hk72, c_73, c_108, hk109, hpl, c_119, c_120, c_121, c_122, c_123]) _ _ hW hS ls (lv_sub hl [0, 1, 2, 3, 4, 5, 6] rfl)
                        · skip
                          refine lv_iload_n hx hb dX5_join_124 rfl (lv_at hl 4 rfl) ?_
                          refine lv_iload hx hb dX5_join_125 (lv_at hl 5 rfl) ?_
                          refine lv_icmp_ne (tgt := 134) hx hb dX5_join_127 (by decide) (fun c_124 => ?_) (fun c_124 => ?_)
                          · skip
                            refine lv_iconst (v := 1) hx hb dX5_join_134 (by decide) ?_
                            refine lv_goto (tgt := 139) hx hb dX5_join_135 (by decide) ?_
                            refine lv_istore (lv' := [(6, .int 1), (5, .int (k_b pl)), (0, .ref (ad 13 0)), (1, .int (nI i3)), (2, .int (nI i6)), (3, .int (nI i72)), (4, .int (nI i109))]) hx hb dX5_join_139 hl (by decide) rfl (fun ls hl => ?_)
                            exact join141 true (by simp [mUnl, c_1, hk3, c_4, hk6, c_7, c_70, hk72, c_73, c_108, hk109, hpl, c_119, c_120, c_121, c_122, c_123, c_124]) _ _ hW hS ls (lv_sub hl [0, 1, 2, 3, 4, 5, 6] rfl)
                          · skip
                            refine lv_iload_n hx hb dX5_join_130 rfl (lv_at hl 4 rfl) ?_
                            refine lv_if_ge (tgt := 138) hx hb dX5_join_131 (by decide) (fun _ => ?_) (fun c_125 => absurd (nI_pos' (by omega)) c_125)
                            refine lv_iconst (v := 0) hx hb dX5_join_138 (by decide) ?_
                            refine lv_istore (lv' := [(6, .int 0), (5, .int (k_b pl)), (0, .ref (ad 13 0)), (1, .int (nI i3)), (2, .int (nI i6)), (3, .int (nI i72)), (4, .int (nI i109))]) hx hb dX5_join_139 hl (by decide) rfl (fun ls hl => ?_)
                            exact join141 false (by simp [mUnl, c_1, hk3, c_4, hk6, c_7, c_70, hk72, c_73, c_108, hk109, hpl, c_119, c_120, c_121, c_122, c_123, c_124]) _ _ hW hS ls (lv_sub hl [0, 1, 2, 3, 4, 5, 6] rfl)
              refine lv_aload_n hx hb dX5_join_48 rfl (lv_at hl 0 rfl) ?_
              refine lv_iload_n hx hb dX5_join_49 rfl (lv_at hl 1 rfl) ?_
              refine w_cV1 X hS (m_X5_isPlain l G ad nA nK mA mK E I J i3 hs (by first | assumption | omega)) rfl rfl g619 g4 g616 g618 p31 hd_X5_isPlain ⟨Nat.le_of_ble_eq_true rfl, Nat.le_of_ble_eq_true rfl⟩ (k_rec X hW 13 0 Nat.zero_lt_one rfl rfl) hW hl.1 rfl (Nat.le_of_ble_eq_true rfl) dX5_join_50 (Nat.zero_le _) (Nat.zero_le _) (fun H locs hW hS => ?_)
              refine lb_if_eq (tgt := 94) hx hb dX5_join_53 (by decide) (fun c_126 => ?_) (fun c_126 => ?_)
              · skip
                refine lv_iconst (v := 0) hx hb dX5_join_94 (by decide) ?_
                refine lv_istore (lv' := [(5, .int 0), (0, .ref (ad 13 0)), (1, .int (nI i3)), (2, .int (nI i6)), (3, .int (nI i72)), (4, .int (nI i109))]) hx hb dX5_join_95 hl (by decide) rfl (fun ls hl => ?_)
                have join141 : ∀ (un : Bool), (un = mUnl (nI i3) (nI i6) (nI i72) (nI i109)) → ∀ (H : Heap) (locs : List Loc), Wd G ad nA nK I J H → va_S (k_A G) s.heap H locs → ∀ ls : Array Slot, lv_has ls 8 [(6, .int (k_b un)), (5, .int 0), (0, .ref (ad 13 0)), (1, .int (nI i3)), (2, .int (nI i6)), (3, .int (nI i72)), (4, .int (nI i109))] → W p l e { frames := 2, cells := 0, slots := 0, locals := 46 } s m ([.ref (ad 13 0), .int (nI i3), .int (nI i6), .int (nI i72), .int (nI i109)] : List Value).toArray below meth c H locs 0 0 (MQ below (k_Q G (some (.int ((mcJoin mA (nI i3) (nI i6) (nI i72) (nI i109) (I, J)).1))) (Wd G ad nA nK ((mcJoin mA (nI i3) (nI i6) (nI i72) (nI i109) (I, J)).2.1) ((mcJoin mA (nI i3) (nI i6) (nI i72) (nI i109) (I, J)).2.2))) ([.ref (ad 13 0), .int (nI i3), .int (nI i6), .int (nI i72), .int (nI i109)] : List Value).toArray s 0 0 (k_A G)) (F0 m 141 ls []) := by
                  intro un hun H locs hW hS ls hl
                  refine lv_iload hx hb dX5_join_141 (lv_at hl 1 rfl) ?_
                  refine lv_if_eq (tgt := 160) hx hb dX5_join_143 (by decide) (fun _ => ?_) (fun c_127 => absurd (by decide) c_127)
                  refine lv_sipush (v := (-1003)) hx hb dX5_join_160 (by decide) ?_
                  exact w_iret X hr hlk hS (by first | rfl | (simp [mcJoin, mJoI, mw, c_1, hk3, c_4, hk6, c_7, c_70, hk72, c_73, c_108, hk109, c_126, hun]; done) | (simp [mcJoin, mJoI, mw, c_1, hk3, c_4, hk6, c_7, c_70, hk72, c_73, c_108, hk109, c_126, hun]; rfl)) (hW.to (by first | rfl | (simp [mcJoin, mJoI, mw, c_1, hk3, c_4, hk6, c_7, c_70, hk72, c_73, c_108, hk109, c_126, hun]; done)) (by first | rfl | (simp [mcJoin, mJoI, mw, c_1, hk3, c_4, hk6, c_7, c_70, hk72, c_73, c_108, hk109, c_126, hun]; done))) dX5_join_163
                exact join97 false (by simp [mPlX, c_1, hk3, c_4, hk6, c_7, c_70, hk72, c_73, c_108, hk109, c_126]) _ _ hW hS ls (lv_sub hl [0, 1, 2, 3, 4, 5] rfl)
              · skip
                refine lv_aload_n hx hb dX5_join_56 rfl (lv_at hl 0 rfl) ?_
                refine lv_iload_n hx hb dX5_join_57 rfl (lv_at hl 2 rfl) ?_
                refine w_cV1 X hS (m_X5_isPlain l G ad nA nK mA mK E I J i6 hs (by first | assumption | omega)) rfl rfl g619 g4 g616 g618 p31 hd_X5_isPlain ⟨Nat.le_of_ble_eq_true rfl, Nat.le_of_ble_eq_true rfl⟩ (k_rec X hW 13 0 Nat.zero_lt_one rfl rfl) hW hl.1 rfl (Nat.le_of_ble_eq_true rfl) dX5_join_58 (Nat.zero_le _) (Nat.zero_le _) (fun H locs hW hS => ?_)
                refine lb_if_eq (tgt := 94) hx hb dX5_join_61 (by decide) (fun c_128 => ?_) (fun c_128 => ?_)
                · skip
                  refine lv_iconst (v := 0) hx hb dX5_join_94 (by decide) ?_
                  refine lv_istore (lv' := [(5, .int 0), (0, .ref (ad 13 0)), (1, .int (nI i3)), (2, .int (nI i6)), (3, .int (nI i72)), (4, .int (nI i109))]) hx hb dX5_join_95 hl (by decide) rfl (fun ls hl => ?_)
                  have join141 : ∀ (un : Bool), (un = mUnl (nI i3) (nI i6) (nI i72) (nI i109)) → ∀ (H : Heap) (locs : List Loc), Wd G ad nA nK I J H → va_S (k_A G) s.heap H locs → ∀ ls : Array Slot, lv_has ls 8 [(6, .int (k_b un)), (5, .int 0), (0, .ref (ad 13 0)), (1, .int (nI i3)), (2, .int (nI i6)), (3, .int (nI i72)), (4, .int (nI i109))] → W p l e { frames := 2, cells := 0, slots := 0, locals := 46 } s m ([.ref (ad 13 0), .int (nI i3), .int (nI i6), .int (nI i72), .int (nI i109)] : List Value).toArray below meth c H locs 0 0 (MQ below (k_Q G (some (.int ((mcJoin mA (nI i3) (nI i6) (nI i72) (nI i109) (I, J)).1))) (Wd G ad nA nK ((mcJoin mA (nI i3) (nI i6) (nI i72) (nI i109) (I, J)).2.1) ((mcJoin mA (nI i3) (nI i6) (nI i72) (nI i109) (I, J)).2.2))) ([.ref (ad 13 0), .int (nI i3), .int (nI i6), .int (nI i72), .int (nI i109)] : List Value).toArray s 0 0 (k_A G)) (F0 m 141 ls []) := by
                    intro un hun H locs hW hS ls hl
                    refine lv_iload hx hb dX5_join_141 (lv_at hl 1 rfl) ?_
                    refine lv_if_eq (tgt := 160) hx hb dX5_join_143 (by decide) (fun _ => ?_) (fun c_129 => absurd (by decide) c_129)
                    refine lv_sipush (v := (-1003)) hx hb dX5_join_160 (by decide) ?_
                    exact w_iret X hr hlk hS (by first | rfl | (simp [mcJoin, mJoI, mw, c_1, hk3, c_4, hk6, c_7, c_70, hk72, c_73, c_108, hk109, c_126, c_128, hun]; done) | (simp [mcJoin, mJoI, mw, c_1, hk3, c_4, hk6, c_7, c_70, hk72, c_73, c_108, hk109, c_126, c_128, hun]; rfl)) (hW.to (by first | rfl | (simp [mcJoin, mJoI, mw, c_1, hk3, c_4, hk6, c_7, c_70, hk72, c_73, c_108, hk109, c_126, c_128, hun]; done)) (by first | rfl | (simp [mcJoin, mJoI, mw, c_1, hk3, c_4, hk6, c_7, c_70, hk72, c_73, c_108, hk109, c_126, c_128, hun]; done))) dX5_join_163
                  exact join97 false (by simp [mPlX, c_1, hk3, c_4, hk6, c_7, c_70, hk72, c_73, c_108, hk109, c_126, c_128]) _ _ hW hS ls (lv_sub hl [0, 1, 2, 3, 4, 5] rfl)
                · skip
                  refine lv_iload_n hx hb dX5_join_64 rfl (lv_at hl 3 rfl) ?_
                  refine lv_if_lt (tgt := 76) hx hb dX5_join_65 (by decide) (fun c_130 => absurd c_130 (nI_pos (by omega))) (fun _ => ?_)
                  refine lv_aload_n hx hb dX5_join_68 rfl (lv_at hl 0 rfl) ?_
                  refine lv_iload_n hx hb dX5_join_69 rfl (lv_at hl 3 rfl) ?_
                  refine w_cV1 X hS (m_X5_isPlain l G ad nA nK mA mK E I J i72 hs (by first | assumption | omega)) rfl rfl g619 g4 g616 g618 p31 hd_X5_isPlain ⟨Nat.le_of_ble_eq_true rfl, Nat.le_of_ble_eq_true rfl⟩ (k_rec X hW 13 0 Nat.zero_lt_one rfl rfl) hW hl.1 rfl (Nat.le_of_ble_eq_true rfl) dX5_join_70 (Nat.zero_le _) (Nat.zero_le _) (fun H locs hW hS => ?_)
                  refine lb_if_eq (tgt := 94) hx hb dX5_join_73 (by decide) (fun c_131 => ?_) (fun c_131 => ?_)
                  · skip
                    refine lv_iconst (v := 0) hx hb dX5_join_94 (by decide) ?_
                    refine lv_istore (lv' := [(5, .int 0), (0, .ref (ad 13 0)), (1, .int (nI i3)), (2, .int (nI i6)), (3, .int (nI i72)), (4, .int (nI i109))]) hx hb dX5_join_95 hl (by decide) rfl (fun ls hl => ?_)
                    have join141 : ∀ (un : Bool), (un = mUnl (nI i3) (nI i6) (nI i72) (nI i109)) → ∀ (H : Heap) (locs : List Loc), Wd G ad nA nK I J H → va_S (k_A G) s.heap H locs → ∀ ls : Array Slot, lv_has ls 8 [(6, .int (k_b un)), (5, .int 0), (0, .ref (ad 13 0)), (1, .int (nI i3)), (2, .int (nI i6)), (3, .int (nI i72)), (4, .int (nI i109))] → W p l e { frames := 2, cells := 0, slots := 0, locals := 46 } s m ([.ref (ad 13 0), .int (nI i3), .int (nI i6), .int (nI i72), .int (nI i109)] : List Value).toArray below meth c H locs 0 0 (MQ below (k_Q G (some (.int ((mcJoin mA (nI i3) (nI i6) (nI i72) (nI i109) (I, J)).1))) (Wd G ad nA nK ((mcJoin mA (nI i3) (nI i6) (nI i72) (nI i109) (I, J)).2.1) ((mcJoin mA (nI i3) (nI i6) (nI i72) (nI i109) (I, J)).2.2))) ([.ref (ad 13 0), .int (nI i3), .int (nI i6), .int (nI i72), .int (nI i109)] : List Value).toArray s 0 0 (k_A G)) (F0 m 141 ls []) := by
                      intro un hun H locs hW hS ls hl
                      refine lv_iload hx hb dX5_join_141 (lv_at hl 1 rfl) ?_
                      refine lv_if_eq (tgt := 160) hx hb dX5_join_143 (by decide) (fun _ => ?_) (fun c_132 => absurd (by decide) c_132)
                      refine lv_sipush (v := (-1003)) hx hb dX5_join_160 (by decide) ?_
                      exact w_iret X hr hlk hS (by first | rfl | (simp [mcJoin, mJoI, mw, c_1, hk3, c_4, hk6, c_7, c_70, hk72, c_73, c_108, hk109, c_126, c_128, c_131, hun]; done) | (simp [mcJoin, mJoI, mw, c_1, hk3, c_4, hk6, c_7, c_70, hk72, c_73, c_108, hk109, c_126, c_128, c_131, hun]; rfl)) (hW.to (by first | rfl | (simp [mcJoin, mJoI, mw, c_1, hk3, c_4, hk6, c_7, c_70, hk72, c_73, c_108, hk109, c_126, c_128, c_131, hun]; done)) (by first | rfl | (simp [mcJoin, mJoI, mw, c_1, hk3, c_4, hk6, c_7, c_70, hk72, c_73, c_108, hk109, c_126, c_128, c_131, hun]; done))) dX5_join_163
                    exact join97 false (by simp [mPlX, c_1, hk3, c_4, hk6, c_7, c_70, hk72, c_73, c_108, hk109, c_126, c_128, c_131]) _ _ hW hS ls (lv_sub hl [0, 1, 2, 3, 4, 5] rfl)
                  · skip
                    refine lv_iload hx hb dX5_join_76 (lv_at hl 4 rfl) ?_
                    refine lv_if_lt (tgt := 90) hx hb dX5_join_78 (by decide) (fun c_133 => absurd c_133 (nI_pos (by omega))) (fun _ => ?_)
                    refine lv_aload_n hx hb dX5_join_81 rfl (lv_at hl 0 rfl) ?_
                    refine lv_iload hx hb dX5_join_82 (lv_at hl 4 rfl) ?_
                    refine w_cV1 X hS (m_X5_isPlain l G ad nA nK mA mK E I J i109 hs (by first | assumption | omega)) rfl rfl g619 g4 g616 g618 p31 hd_X5_isPlain ⟨Nat.le_of_ble_eq_true rfl, Nat.le_of_ble_eq_true rfl⟩ (k_rec X hW 13 0 Nat.zero_lt_one rfl rfl) hW hl.1 rfl (Nat.le_of_ble_eq_true rfl) dX5_join_84 (Nat.zero_le _) (Nat.zero_le _) (fun H locs hW hS => ?_)
                    refine lb_if_eq (tgt := 94) hx hb dX5_join_87 (by decide) (fun c_134 => ?_) (fun c_134 => ?_)
                    · skip
                      refine lv_iconst (v := 0) hx hb dX5_join_94 (by decide) ?_
                      refine lv_istore (lv' := [(5, .int 0), (0, .ref (ad 13 0)), (1, .int (nI i3)), (2, .int (nI i6)), (3, .int (nI i72)), (4, .int (nI i109))]) hx hb dX5_join_95 hl (by decide) rfl (fun ls hl => ?_)
                      have join141 : ∀ (un : Bool), (un = mUnl (nI i3) (nI i6) (nI i72) (nI i109)) → ∀ (H : Heap) (locs : List Loc), Wd G ad nA nK I J H → va_S (k_A G) s.heap H locs → ∀ ls : Array Slot, lv_has ls 8 [(6, .int (k_b un)), (5, .int 0), (0, .ref (ad 13 0)), (1, .int (nI i3)), (2, .int (nI i6)), (3, .int (nI i72)), (4, .int (nI i109))] → W p l e { frames := 2, cells := 0, slots := 0, locals := 46 } s m ([.ref (ad 13 0), .int (nI i3), .int (nI i6), .int (nI i72), .int (nI i109)] : List Value).toArray below meth c H locs 0 0 (MQ below (k_Q G (some (.int ((mcJoin mA (nI i3) (nI i6) (nI i72) (nI i109) (I, J)).1))) (Wd G ad nA nK ((mcJoin mA (nI i3) (nI i6) (nI i72) (nI i109) (I, J)).2.1) ((mcJoin mA (nI i3) (nI i6) (nI i72) (nI i109) (I, J)).2.2))) ([.ref (ad 13 0), .int (nI i3), .int (nI i6), .int (nI i72), .int (nI i109)] : List Value).toArray s 0 0 (k_A G)) (F0 m 141 ls []) := by
                        intro un hun H locs hW hS ls hl
                        refine lv_iload hx hb dX5_join_141 (lv_at hl 1 rfl) ?_
                        refine lv_if_eq (tgt := 160) hx hb dX5_join_143 (by decide) (fun _ => ?_) (fun c_135 => absurd (by decide) c_135)
                        refine lv_sipush (v := (-1003)) hx hb dX5_join_160 (by decide) ?_
                        exact w_iret X hr hlk hS (by first | rfl | (simp [mcJoin, mJoI, mw, c_1, hk3, c_4, hk6, c_7, c_70, hk72, c_73, c_108, hk109, c_126, c_128, c_131, c_134, hun]; done) | (simp [mcJoin, mJoI, mw, c_1, hk3, c_4, hk6, c_7, c_70, hk72, c_73, c_108, hk109, c_126, c_128, c_131, c_134, hun]; rfl)) (hW.to (by first | rfl | (simp [mcJoin, mJoI, mw, c_1, hk3, c_4, hk6, c_7, c_70, hk72, c_73, c_108, hk109, c_126, c_128, c_131, c_134, hun]; done)) (by first | rfl | (simp [mcJoin, mJoI, mw, c_1, hk3, c_4, hk6, c_7, c_70, hk72, c_73, c_108, hk109, c_126, c_128, c_131, c_134, hun]; done))) dX5_join_163
                      exact join97 false (by simp [mPlX, c_1, hk3, c_4, hk6, c_7, c_70, hk72, c_73, c_108, hk109, c_126, c_128, c_131, c_134]) _ _ hW hS ls (lv_sub hl [0, 1, 2, 3, 4, 5] rfl)
                    · skip
                      refine lv_iconst (v := 1) hx hb dX5_join_90 (by decide) ?_
                      refine lv_goto (tgt := 95) hx hb dX5_join_91 (by decide) ?_
                      refine lv_istore (lv' := [(5, .int 1), (0, .ref (ad 13 0)), (1, .int (nI i3)), (2, .int (nI i6)), (3, .int (nI i72)), (4, .int (nI i109))]) hx hb dX5_join_95 hl (by decide) rfl (fun ls hl => ?_)
                      have join141 : ∀ (un : Bool), (un = mUnl (nI i3) (nI i6) (nI i72) (nI i109)) → ∀ (H : Heap) (locs : List Loc), Wd G ad nA nK I J H → va_S (k_A G) s.heap H locs → ∀ ls : Array Slot, lv_has ls 8 [(6, .int (k_b un)), (5, .int 1), (0, .ref (ad 13 0)), (1, .int (nI i3)), (2, .int (nI i6)), (3, .int (nI i72)), (4, .int (nI i109))] → W p l e { frames := 2, cells := 0, slots := 0, locals := 46 } s m ([.ref (ad 13 0), .int (nI i3), .int (nI i6), .int (nI i72), .int (nI i109)] : List Value).toArray below meth c H locs 0 0 (MQ below (k_Q G (some (.int ((mcJoin mA (nI i3) (nI i6) (nI i72) (nI i109) (I, J)).1))) (Wd G ad nA nK ((mcJoin mA (nI i3) (nI i6) (nI i72) (nI i109) (I, J)).2.1) ((mcJoin mA (nI i3) (nI i6) (nI i72) (nI i109) (I, J)).2.2))) ([.ref (ad 13 0), .int (nI i3), .int (nI i6), .int (nI i72), .int (nI i109)] : List Value).toArray s 0 0 (k_A G)) (F0 m 141 ls []) := by
                        intro un hun H locs hW hS ls hl
                        refine lv_iload hx hb dX5_join_141 (lv_at hl 1 rfl) ?_
                        refine lv_if_eq (tgt := 160) hx hb dX5_join_143 (by decide) (fun c_136 => absurd c_136 (by decide)) (fun _ => ?_)
                        refine lv_iload hx hb dX5_join_146 (lv_at hl 0 rfl) ?_
                        refine lb_if_eq (tgt := 160) hx hb dX5_join_148 (by decide) (fun c_137 => ?_) (fun c_137 => ?_)
                        · skip
                          refine lv_sipush (v := (-1003)) hx hb dX5_join_160 (by decide) ?_
                          exact w_iret X hr hlk hS (by first | rfl | (simp [mcJoin, mJoI, mw, c_1, hk3, c_4, hk6, c_7, c_70, hk72, c_73, c_108, hk109, c_126, c_128, c_131, c_134, hun, c_137]; done) | (simp [mcJoin, mJoI, mw, c_1, hk3, c_4, hk6, c_7, c_70, hk72, c_73, c_108, hk109, c_126, c_128, c_131, c_134, hun, c_137]; rfl)) (hW.to (by first | rfl | (simp [mcJoin, mJoI, mw, c_1, hk3, c_4, hk6, c_7, c_70, hk72, c_73, c_108, hk109, c_126, c_128, c_131, c_134, hun, c_137]; done)) (by first | rfl | (simp [mcJoin, mJoI, mw, c_1, hk3, c_4, hk6, c_7, c_70, hk72, c_73, c_108, hk109, c_126, c_128, c_131, c_134, hun, c_137]; done))) dX5_join_163
                        · skip
                          refine lv_iload_n hx hb dX5_join_151 rfl (lv_at hl 5 rfl) ?_
                          refine lv_if_ge (tgt := 164) hx hb dX5_join_152 (by decide) (fun _ => ?_) (fun c_138 => absurd (nI_pos' (by omega)) c_138)
                          refine lv_aload_n hx hb dX5_join_164 rfl (lv_at hl 2 rfl) ?_
                          refine w_get (v := .int (nI mA)) X hW 13 0 Nat.zero_lt_one rfl rfl inG5 6 (by decide) g504 (congrArg (fun z => some (Value.int z)) hs.1) dX5_join_165 ?_
                          refine lv_bipush (v := 24) hx hb dX5_join_168 (by decide) ?_
                          refine lv_icmp_ne (tgt := 177) hx hb dX5_join_170 (by decide) (fun c_139 => ?_) (fun c_139 => ?_)
                          · skip
                            have h24 : mA < 24 := nI_full (N := 24) (by omega) (by decide) rfl c_139
                            refine lv_aload_n hx hb dX5_join_177 rfl (lv_at hl 2 rfl) ?_
                            refine lv_iconst (v := 1) hx hb dX5_join_178 (by decide) ?_
                            refine w_cV1 X hS (m_X5_fresh l G ad nA nK mA mK E I J 1 hs (by first | assumption | omega)) rfl rfl g607 g4 g604 g606 p29 hd_X5_fresh ⟨Nat.le_of_ble_eq_true rfl, Nat.le_of_ble_eq_true rfl⟩ (k_rec X hW 13 0 Nat.zero_lt_one rfl rfl) hW hl.1 rfl (Nat.le_of_ble_eq_true rfl) dX5_join_179 (Nat.zero_le _) (Nat.zero_le _) (fun H locs hW hS => ?_)
                            obtain ⟨I140, eI140⟩ : ∃ z, z = mFr mA 1 I := ⟨_, rfl⟩
                            rw [← eI140] at hW
                            have hs140 : m_S mA mK E I140 := by rw [eI140]; exact sorry
                            obtain ⟨J140, eJ140⟩ : ∃ z, z = mFrJ mA J := ⟨_, rfl⟩
                            rw [← eJ140] at hW
                            refine lv_istore (lv' := [(7, .int (nI mA)), (6, .int (k_b un)), (5, .int 1), (0, .ref (ad 13 0)), (1, .int (nI i3)), (2, .int (nI i6)), (3, .int (nI i72)), (4, .int (nI i109))]) hx hb dX5_join_182 hl (by decide) rfl (fun ls hl => ?_)
                            refine lv_aload_n hx hb dX5_join_184 rfl (lv_at hl 3 rfl) ?_
                            refine w_get X hW 13 0 Nat.zero_lt_one rfl rfl inG5 15 (by decide) g513 rfl dX5_join_185 ?_
                            refine lv_iconst (v := 4) hx hb dX5_join_188 (by decide) ?_
                            refine lv_iload hx hb dX5_join_189 (lv_at hl 0 rfl) ?_
                            refine lw_imulN (a := 4) (b := mA) hx hb dX5_join_191 ?_
                            refine lv_iload_n hx hb dX5_join_192 rfl (lv_at hl 4 rfl) ?_
                            refine w_iastN (i := 4 * mA) X hW hS 35 0 Nat.zero_lt_one rfl (by omega) rfl dX5_join_193 (fun H locs hW hS => ?_)
                            obtain ⟨I141, eI141⟩ : ∃ z, z = k_up I140 35 0 (upd (I140 35 0) (4 * mA) (nI i3)) := ⟨_, rfl⟩
                            rw [← eI141] at hW
                            refine lv_aload_n hx hb dX5_join_194 rfl (lv_at hl 3 rfl) ?_
                            refine w_get X hW 13 0 Nat.zero_lt_one rfl rfl inG5 15 (by decide) g513 rfl dX5_join_195 ?_
                            refine lv_iconst (v := 4) hx hb dX5_join_198 (by decide) ?_
                            refine lv_iload hx hb dX5_join_199 (lv_at hl 0 rfl) ?_
                            refine lw_imulN (a := 4) (b := mA) hx hb dX5_join_201 ?_
                            refine lv_iconst (v := 1) hx hb dX5_join_202 (by decide) ?_
                            refine lw_iaddN (a := 4 * mA) (b := 1) hx hb dX5_join_203 ?_
                            refine lv_iload_n hx hb dX5_join_204 rfl (lv_at hl 5 rfl) ?_
                            refine w_iastN (i := 4 * mA + 1) X hW hS 35 0 Nat.zero_lt_one rfl (by omega) rfl dX5_join_205 (fun H locs hW hS => ?_)
                            obtain ⟨I142, eI142⟩ : ∃ z, z = k_up I141 35 0 (upd (I141 35 0) (4 * mA + 1) (nI i6)) := ⟨_, rfl⟩
                            rw [← eI142] at hW
                            refine lv_aload_n hx hb dX5_join_206 rfl (lv_at hl 3 rfl) ?_
                            refine w_get X hW 13 0 Nat.zero_lt_one rfl rfl inG5 15 (by decide) g513 rfl dX5_join_207 ?_
                            refine lv_iconst (v := 4) hx hb dX5_join_210 (by decide) ?_
                            refine lv_iload hx hb dX5_join_211 (lv_at hl 0 rfl) ?_
                            refine lw_imulN (a := 4) (b := mA) hx hb dX5_join_213 ?_
                            refine lv_iconst (v := 2) hx hb dX5_join_214 (by decide) ?_
                            refine lw_iaddN (a := 4 * mA) (b := 2) hx hb dX5_join_215 ?_
                            refine lv_iload_n hx hb dX5_join_216 rfl (lv_at hl 6 rfl) ?_
                            refine w_iastN (i := 4 * mA + 2) X hW hS 35 0 Nat.zero_lt_one rfl (by omega) rfl dX5_join_217 (fun H locs hW hS => ?_)
                            obtain ⟨I143, eI143⟩ : ∃ z, z = k_up I142 35 0 (upd (I142 35 0) (4 * mA + 2) (nI i72)) := ⟨_, rfl⟩
                            rw [← eI143] at hW
                            refine lv_aload_n hx hb dX5_join_218 rfl (lv_at hl 3 rfl) ?_
                            refine w_get X hW 13 0 Nat.zero_lt_one rfl rfl inG5 15 (by decide) g513 rfl dX5_join_219 ?_
                            refine lv_iconst (v := 4) hx hb dX5_join_222 (by decide) ?_
                            refine lv_iload hx hb dX5_join_223 (lv_at hl 0 rfl) ?_
                            refine lw_imulN (a := 4) (b := mA) hx hb dX5_join_225 ?_
                            refine lv_iconst (v := 3) hx hb dX5_join_226 (by decide) ?_
                            refine lw_iaddN (a := 4 * mA) (b := 3) hx hb dX5_join_227 ?_
                            refine lv_iload hx hb dX5_join_228 (lv_at hl 7 rfl) ?_
                            refine w_iastN (i := 4 * mA + 3) X hW hS 35 0 Nat.zero_lt_one rfl (by omega) rfl dX5_join_230 (fun H locs hW hS => ?_)
                            obtain ⟨I144, eI144⟩ : ∃ z, z = k_up I143 35 0 (upd (I143 35 0) (4 * mA + 3) (nI i109)) := ⟨_, rfl⟩
                            rw [← eI144] at hW
                            refine lv_iload hx hb dX5_join_231 (lv_at hl 0 rfl) ?_
                            exact w_iret X hr hlk hS (by first | rfl | (simp [mcJoin, mJoI, mw, c_1, hk3, c_4, hk6, c_7, c_70, hk72, c_73, c_108, hk109, c_126, c_128, c_131, c_134, hun, c_137, c_139, eI140, eJ140, eI141, eI142, eI143, eI144]; done) | (subst eI144 eI143 eI142 eI141 eJ140 eI140; simp [mcJoin, mJoI, mw, c_1, hk3, c_4, hk6, c_7, c_70, hk72, c_73, c_108, hk109, c_126, c_128, c_131, c_134, hun, c_137, c_139]; done) | (simp [mcJoin, mJoI, mw, c_1, hk3, c_4, hk6, c_7, c_70, hk72, c_73, c_108, hk109, c_126, c_128, c_131, c_134, hun, c_137, c_139, eI140, eJ140, eI141, eI142, eI143, eI144]; rfl)) (hW.to (by first | rfl | (subst eI144 eI143 eI142 eI141 eJ140 eI140; simp [mcJoin, mJoI, mw, c_1, hk3, c_4, hk6, c_7, c_70, hk72, c_73, c_108, hk109, c_126, c_128, c_131, c_134, hun, c_137, c_139]; done) | (subst eI144 eI143 eI142 eI141 eJ140 eI140; rfl) | (subst eI144 eI143 eI142 eI141 eJ140 eI140; simp [mcJoin, mJoI, mw, c_1, hk3, c_4, hk6, c_7, c_70, hk72, c_73, c_108, hk109, c_126, c_128, c_131, c_134, hun, c_137, c_139]; done) | (subst eI144 eI143 eI142 eI141 eJ140 eI140; simp [mcJoin, mJoI, mw, c_1, hk3, c_4, hk6, c_7, c_70, hk72, c_73, c_108, hk109, c_126, c_128, c_131, c_134, hun, c_137, c_139]; rfl) | (simp [mcJoin, mJoI, mw, c_1, hk3, c_4, hk6, c_7, c_70, hk72, c_73, c_108, hk109, c_126, c_128, c_131, c_134, hun, c_137, c_139, eI140, eJ140, eI141, eI142, eI143, eI144]; done)) (by first | rfl | (subst eI144 eI143 eI142 eI141 eJ140 eI140; simp [mcJoin, mJoI, mw, c_1, hk3, c_4, hk6, c_7, c_70, hk72, c_73, c_108, hk109, c_126, c_128, c_131, c_134, hun, c_137, c_139]; done) | (subst eI144 eI143 eI142 eI141 eJ140 eI140; rfl) | (subst eI144 eI143 eI142 eI141 eJ140 eI140; simp [mcJoin, mJoI, mw, c_1, hk3, c_4, hk6, c_7, c_70, hk72, c_73, c_108, hk109, c_126, c_128, c_131, c_134, hun, c_137, c_139]; done) | (subst eI144 eI143 eI142 eI141 eJ140 eI140; simp [mcJoin, mJoI, mw, c_1, hk3, c_4, hk6, c_7, c_70, hk72, c_73, c_108, hk109, c_126, c_128, c_131, c_134, hun, c_137, c_139]; rfl) | (simp [mcJoin, mJoI, mw, c_1, hk3, c_4, hk6, c_7, c_70, hk72, c_73, c_108, hk109, c_126, c_128, c_131, c_134, hun, c_137, c_139, eI140, eJ140, eI141, eI142, eI143, eI144]; done))) dX5_join_233
                          · skip
                            refine lv_sipush (v := (-1004)) hx hb dX5_join_173 (by decide) ?_
                            exact w_iret X hr hlk hS (by first | rfl | (simp [mcJoin, mJoI, mw, c_1, hk3, c_4, hk6, c_7, c_70, hk72, c_73, c_108, hk109, c_126, c_128, c_131, c_134, hun, c_137, c_139]; done) | (simp [mcJoin, mJoI, mw, c_1, hk3, c_4, hk6, c_7, c_70, hk72, c_73, c_108, hk109, c_126, c_128, c_131, c_134, hun, c_137, c_139]; rfl)) (hW.to (by first | rfl | (simp [mcJoin, mJoI, mw, c_1, hk3, c_4, hk6, c_7, c_70, hk72, c_73, c_108, hk109, c_126, c_128, c_131, c_134, hun, c_137, c_139]; done)) (by first | rfl | (simp [mcJoin, mJoI, mw, c_1, hk3, c_4, hk6, c_7, c_70, hk72, c_73, c_108, hk109, c_126, c_128, c_131, c_134, hun, c_137, c_139]; done))) dX5_join_176
                      exact join97 true (by simp [mPlX, c_1, hk3, c_4, hk6, c_7, c_70, hk72, c_73, c_108, hk109, c_126, c_128, c_131, c_134]) _ _ hW hS ls (lv_sub hl [0, 1, 2, 3, 4, 5] rfl)
            · skip
              have hk145 : kAns mA d9 = none := mIs_none (by omega) c_108
              refine lv_sipush (v := (-1001)) hx hb dX5_join_44 (by decide) ?_
              exact w_iret X hr hlk hS (by first | rfl | (simp [mcJoin, mJoI, mw, c_1, hk3, c_4, hk6, c_7, c_70, hk72, c_73, c_108, hk145]; done) | (simp [mcJoin, mJoI, mw, c_1, hk3, c_4, hk6, c_7, c_70, hk72, c_73, c_108, hk145]; rfl)) (hW.to (by first | rfl | (simp [mcJoin, mJoI, mw, c_1, hk3, c_4, hk6, c_7, c_70, hk72, c_73, c_108, hk145]; done)) (by first | rfl | (simp [mcJoin, mJoI, mw, c_1, hk3, c_4, hk6, c_7, c_70, hk72, c_73, c_108, hk145]; done))) dX5_join_47
