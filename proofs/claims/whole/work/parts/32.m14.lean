set_option maxHeartbeats 1200000 in
set_option maxRecDepth 100000 in
theorem m_X5_count (l : Launch) (G : k_G) (ad : Nat → Nat → Nat) (nA nK : Nat) (mA mK : Nat) (E : Nat → Nat) (I : k_I) (J : k_J) (w : Int32) (hs : m_S mA mK E I) : k_Met l yX5_count cX5_count 5 (some FieldType.int) { frames := 5, cells := 0, slots := 0, locals := 120 } G [.ref (ad 13 0), .int w] (Wd G ad nA nK I J) (some (.int ((mcCount E mA mK w (I, J)).1))) (Wd G ad nA nK ((mcCount E mA mK w (I, J)).2.1) ((mcCount E mA mK w (I, J)).2.2)) 0 0 := by
  refine k_body (by decide) (Nat.le_of_ble_eq_true rfl) ?_
  intro p e s m below meth c ls X hr hlk hnm hW hS hl
  have hx := X.1.1
  have hb := X.1.2.1
  have hG := X.1.2.2.2.2
  have hA24 := hs.2.2.1
  have hK30 := hs.2.2.2.1
  have hl : lv_has ls 5 [(0, .ref (ad 13 0)), (1, .int w)] := hl
  refine lv_iload_n hx hb dX5_count_0 rfl (lv_at hl 1 rfl) ?_
  refine lv_i2l (v := Int32.toInt64 w) hx hb dX5_count_1 rfl ?_
  refine lv_lconst (v := 0) hx hb dX5_count_2 (by decide) ?_
  refine lv_ldc2 hx hb X.1.2.2.2.1 (hG _ g767) dX5_count_3 ?_
  refine w_cS1 X hS (m_X5_in l G (Wd G ad nA nK I J) (Int32.toInt64 w) 0 8 ) rfl rfl g583 g4 g581 g582 hd_X5_in ⟨Nat.le_of_ble_eq_true rfl, Nat.le_of_ble_eq_true rfl⟩ hW hl.1 rfl (Nat.le_of_ble_eq_true rfl) dX5_count_6 (Nat.zero_le _) (Nat.zero_le _) (fun H locs hW hS => ?_)
  refine lb_if_ne (tgt := 16) hx hb dX5_count_9 (by decide) (fun c_1 => ?_) (fun c_1 => ?_)
  · skip
    refine lv_aload_n hx hb dX5_count_16 rfl (lv_at hl 0 rfl) ?_
    refine w_cVv X hS (m_X5_findHeaps l G ad nA nK mA mK E I J  hs) rfl rfl g750 g4 g747 g749 p46 hd_X5_findHeaps ⟨Nat.le_of_ble_eq_true rfl, Nat.le_of_ble_eq_true rfl⟩ (k_rec X hW 13 0 Nat.zero_lt_one rfl rfl) hW hl.1 rfl (Nat.le_of_ble_eq_true rfl) dX5_count_17 (Nat.zero_le _) (Nat.zero_le _) (fun H locs hW hS => ?_)
    obtain ⟨I2, eI2⟩ : ∃ z, z = (mFH E mA mK (I, J)).1 := ⟨_, rfl⟩
    rw [← eI2] at hW
    have hs2 : m_S mA mK E I2 := by rw [eI2]; exact (mFH_S (s := (I, J)) hs)
    obtain ⟨J2, eJ2⟩ : ∃ z, z = (mFH E mA mK (I, J)).2 := ⟨_, rfl⟩
    rw [← eJ2] at hW
    refine lv_iconst (v := 0) hx hb dX5_count_20 (by decide) ?_
    refine lv_istore_n (lv' := [(2, .int 0), (0, .ref (ad 13 0)), (1, .int w)]) hx hb dX5_count_21 rfl hl (by decide) rfl (fun ls hl => ?_)
    refine lv_iconst (v := 0) hx hb dX5_count_22 (by decide) ?_
    refine lv_istore_n (lv' := [(3, .int 0), (2, .int 0), (0, .ref (ad 13 0)), (1, .int w)]) hx hb dX5_count_23 rfl hl (by decide) rfl (fun ls hl => ?_)
    have loop24 : ∀ (d a : Nat) (n : Int32), a + d = mA → (kLoop (mCn1 mA I2 J2 w) d a n = mCnA mA I2 J2 w) → ∀ (H : Heap) (locs : List Loc), Wd G ad nA nK I2 J2 H → va_S (k_A G) s.heap H locs → ∀ ls : Array Slot, lv_has ls 5 [(3, .int (nI a)), (2, .int n), (0, .ref (ad 13 0)), (1, .int w)] → W p l e { frames := 5, cells := 0, slots := 0, locals := 120 } s m ([.ref (ad 13 0), .int w] : List Value).toArray below meth c H locs 0 0 (MQ below (k_Q G (some (.int ((mcCount E mA mK w (I, J)).1))) (Wd G ad nA nK ((mcCount E mA mK w (I, J)).2.1) ((mcCount E mA mK w (I, J)).2.2))) ([.ref (ad 13 0), .int w] : List Value).toArray s 0 0 (k_A G)) (F0 m 24 ls []) := by
      intro d
      induction d with
      | zero =>
        intro a n hi24 hz24  H locs hW hS ls hl
        have hz24 : n = mCnA mA I2 J2 w := hz24
        refine lv_iload_n hx hb dX5_count_24 rfl (lv_at hl 0 rfl) ?_
        refine lv_aload_n hx hb dX5_count_25 rfl (lv_at hl 2 rfl) ?_
        refine w_get (v := .int (nI mA)) X hW 13 0 Nat.zero_lt_one rfl rfl inG5 6 (by decide) g504 (congrArg (fun z => some (Value.int z)) hs2.1) dX5_count_26 ?_
        refine lv_icmp_ge (tgt := 90) hx hb dX5_count_29 (by decide) (fun _ => ?_) (fun c_3 => absurd (nI_le (a := mA) (b := a) (by omega) (by omega)) c_3)
        refine lv_iconst (v := 0) hx hb dX5_count_90 (by decide) ?_
        refine lv_istore_n (lv' := [(3, .int 0), (2, .int n), (0, .ref (ad 13 0)), (1, .int w)]) hx hb dX5_count_91 rfl hl (by decide) rfl (fun ls hl => ?_)
        have loop92 : ∀ (d3 q : Nat) (n3 : Int32), q + d3 = mK → (kLoop (mCnq I2 w) d3 q n3 = kLoop (mCnq I2 w) mK 0 n) → ∀ (H : Heap) (locs : List Loc), Wd G ad nA nK I2 J2 H → va_S (k_A G) s.heap H locs → ∀ ls : Array Slot, lv_has ls 5 [(3, .int (nI q)), (2, .int n3), (0, .ref (ad 13 0)), (1, .int w)] → W p l e { frames := 5, cells := 0, slots := 0, locals := 120 } s m ([.ref (ad 13 0), .int w] : List Value).toArray below meth c H locs 0 0 (MQ below (k_Q G (some (.int ((mcCount E mA mK w (I, J)).1))) (Wd G ad nA nK ((mcCount E mA mK w (I, J)).2.1) ((mcCount E mA mK w (I, J)).2.2))) ([.ref (ad 13 0), .int w] : List Value).toArray s 0 0 (k_A G)) (F0 m 92 ls []) := by
          intro d3
          induction d3 with
          | zero =>
            intro q n3 hi92 hz92  H locs hW hS ls hl
            have hz92 : n3 = kLoop (mCnq I2 w) mK 0 n := hz92
            refine lv_iload_n hx hb dX5_count_92 rfl (lv_at hl 0 rfl) ?_
            refine lv_aload_n hx hb dX5_count_93 rfl (lv_at hl 2 rfl) ?_
            refine w_get (v := .int (nI mK)) X hW 13 0 Nat.zero_lt_one rfl rfl inG5 16 (by decide) g514 (congrArg (fun z => some (Value.int z)) hs2.2.1) dX5_count_94 ?_
            refine lv_icmp_ge (tgt := 145) hx hb dX5_count_97 (by decide) (fun _ => ?_) (fun c_4 => absurd (nI_le (a := mK) (b := q) (by omega) (by omega)) c_4)
            refine lv_iload_n hx hb dX5_count_145 rfl (lv_at hl 3 rfl) ?_
            refine lv_if_ne (tgt := 156) hx hb dX5_count_146 (by decide) (fun c_5 => ?_) (fun c_5 => ?_)
            · skip
              refine lv_iload_n hx hb dX5_count_156 rfl (lv_at hl 3 rfl) ?_
              refine lv_bipush (v := 6) hx hb dX5_count_157 (by decide) ?_
              refine lv_icmp_ne (tgt := 169) hx hb dX5_count_159 (by decide) (fun c_6 => ?_) (fun c_6 => ?_)
              · skip
                refine lv_iload_n hx hb dX5_count_169 rfl (lv_at hl 1 rfl) ?_
                exact w_iret X hr hlk hS (by rw [show (mcCount E mA mK w (I, J)).1 = mCnV mA mK I2 J2 w from (by simp [mcCount, c_1, eI2, eJ2])]; first | (simp [mCnV, ← hz92, ← hz24, c_5, c_6]; done) | (simp [mCnV, ← hz92, ← hz24, c_5, c_6]; rfl)) (hW.to (by simp [mcCount, c_1, eI2]) (by simp [mcCount, c_1, eJ2])) dX5_count_170
              · skip
                refine lv_aload_n hx hb dX5_count_162 rfl (lv_at hl 2 rfl) ?_
                refine w_get (v := .int (nI mK)) X hW 13 0 Nat.zero_lt_one rfl rfl inG5 16 (by decide) g514 (congrArg (fun z => some (Value.int z)) hs2.2.1) dX5_count_163 ?_
                refine lv_goto (tgt := 170) hx hb dX5_count_166 (by decide) ?_
                exact w_iret X hr hlk hS (by rw [show (mcCount E mA mK w (I, J)).1 = mCnV mA mK I2 J2 w from (by simp [mcCount, c_1, eI2, eJ2])]; first | (simp [mCnV, ← hz92, ← hz24, c_5, c_6]; done) | (simp [mCnV, ← hz92, ← hz24, c_5, c_6]; rfl)) (hW.to (by simp [mcCount, c_1, eI2]) (by simp [mcCount, c_1, eJ2])) dX5_count_170
            · skip
              refine lv_aload_n hx hb dX5_count_149 rfl (lv_at hl 2 rfl) ?_
              refine w_get (v := .int (nI mA)) X hW 13 0 Nat.zero_lt_one rfl rfl inG5 6 (by decide) g504 (congrArg (fun z => some (Value.int z)) hs2.1) dX5_count_150 ?_
              refine lv_goto (tgt := 170) hx hb dX5_count_153 (by decide) ?_
              exact w_iret X hr hlk hS (by rw [show (mcCount E mA mK w (I, J)).1 = mCnV mA mK I2 J2 w from (by simp [mcCount, c_1, eI2, eJ2])]; first | (simp [mCnV, ← hz92, ← hz24, c_5]; done) | (simp [mCnV, ← hz92, ← hz24, c_5]; rfl)) (hW.to (by simp [mcCount, c_1, eI2]) (by simp [mcCount, c_1, eJ2])) dX5_count_170
          | succ d3 ih =>
            intro q n3 hi92 hz92  H locs hW hS ls hl
            have hlt92 : q < mK := by omega
            have ih92 := ih
            refine lv_iload_n hx hb dX5_count_92 rfl (lv_at hl 0 rfl) ?_
            refine lv_aload_n hx hb dX5_count_93 rfl (lv_at hl 2 rfl) ?_
            refine w_get (v := .int (nI mK)) X hW 13 0 Nat.zero_lt_one rfl rfl inG5 16 (by decide) g514 (congrArg (fun z => some (Value.int z)) hs2.2.1) dX5_count_94 ?_
            refine lv_icmp_ge (tgt := 145) hx hb dX5_count_97 (by decide) (fun c_7 => absurd c_7 (nI_ge (a := q) (b := mK) (by omega) (by omega))) (fun _ => ?_)
            refine lv_iload_n hx hb dX5_count_100 rfl (lv_at hl 1 rfl) ?_
            refine lv_iload_n hx hb dX5_count_101 rfl (lv_at hl 3 rfl) ?_
            refine lv_bipush (v := 7) hx hb dX5_count_102 (by decide) ?_
            refine lv_icmp_ne (tgt := 116) hx hb dX5_count_104 (by decide) (fun c_8 => ?_) (fun c_8 => ?_)
            · skip
              refine lv_iload_n hx hb dX5_count_116 rfl (lv_at hl 3 rfl) ?_
              refine lv_bipush (v := 8) hx hb dX5_count_117 (by decide) ?_
              refine lv_icmp_ne (tgt := 136) hx hb dX5_count_119 (by decide) (fun c_9 => ?_) (fun c_9 => ?_)
              · skip
                refine lv_iconst (v := 0) hx hb dX5_count_136 (by decide) ?_
                refine lv_iadd hx hb dX5_count_137 ?_
                refine lv_istore_n (lv' := [(2, .int (n3 + 0)), (3, .int (nI q)), (0, .ref (ad 13 0)), (1, .int w)]) hx hb dX5_count_138 rfl hl (by decide) rfl (fun ls hl => ?_)
                refine lv_iinc (v := nI (q + 1)) (lv' := [(3, .int (nI (q + 1))), (2, .int (n3 + 0)), (0, .ref (ad 13 0)), (1, .int w)]) hx hb dX5_count_139 hl (k := 1) rfl (nI_1 q) (by decide) rfl (fun ls hl => ?_)
                refine lv_goto (tgt := 92) hx hb dX5_count_142 (by decide) ?_
                exact ih92 (q + 1) (n3 + 0) (by omega) (by first | exact hz92 | (rw [← hz92]; simp [kLoop, mCnB, mCn1, mCnq, c_1, c_8, c_9, ← hz24]; done) | (simp [← hz92, kLoop, mCnB, mCn1, mCnq, c_1, c_8, c_9, ← hz24]; done) | (rw [← hz92]; simp only [kLoop, mCnB, mCn1, mCnq, c_1, c_8, c_9, ← hz24, eq_self, if_true, if_false, Bool.false_eq_true, decide_true, decide_false, Bool.not_true, Bool.not_false, Bool.false_or, Bool.true_or, Bool.and_true, Bool.true_and, Bool.false_and, Bool.and_false, Bool.or_true, Bool.or_false]; done) | (simp only [← hz24]; exact hz92)) _ _ hW hS ls (lv_sub hl [0, 1, 2, 3] rfl)
              · skip
                refine lv_aload_n hx hb dX5_count_122 rfl (lv_at hl 2 rfl) ?_
                refine w_get X hW 13 0 Nat.zero_lt_one rfl rfl inG5 24 (by decide) g522 rfl dX5_count_123 ?_
                refine lv_iload_n hx hb dX5_count_126 rfl (lv_at hl 0 rfl) ?_
                refine w_ialdN (i := q) X hW 44 0 Nat.zero_lt_one rfl (by omega) dX5_count_127 ?_
                refine lv_iload_n hx hb dX5_count_128 rfl (lv_at hl 0 rfl) ?_
                refine lv_icmp_ne (tgt := 136) hx hb dX5_count_129 (by decide) (fun c_10 => ?_) (fun c_10 => ?_)
                · skip
                  refine lv_iconst (v := 0) hx hb dX5_count_136 (by decide) ?_
                  refine lv_iadd hx hb dX5_count_137 ?_
                  refine lv_istore_n (lv' := [(2, .int (n3 + 0)), (3, .int (nI q)), (0, .ref (ad 13 0)), (1, .int w)]) hx hb dX5_count_138 rfl hl (by decide) rfl (fun ls hl => ?_)
                  refine lv_iinc (v := nI (q + 1)) (lv' := [(3, .int (nI (q + 1))), (2, .int (n3 + 0)), (0, .ref (ad 13 0)), (1, .int w)]) hx hb dX5_count_139 hl (k := 1) rfl (nI_1 q) (by decide) rfl (fun ls hl => ?_)
                  refine lv_goto (tgt := 92) hx hb dX5_count_142 (by decide) ?_
                  exact ih92 (q + 1) (n3 + 0) (by omega) (by first | exact hz92 | (rw [← hz92]; simp [kLoop, mCnB, mCn1, mCnq, c_1, c_8, c_9, c_10, ← hz24]; done) | (simp [← hz92, kLoop, mCnB, mCn1, mCnq, c_1, c_8, c_9, c_10, ← hz24]; done) | (rw [← hz92]; simp only [kLoop, mCnB, mCn1, mCnq, c_1, c_8, c_9, c_10, ← hz24, eq_self, if_true, if_false, Bool.false_eq_true, decide_true, decide_false, Bool.not_true, Bool.not_false, Bool.false_or, Bool.true_or, Bool.and_true, Bool.true_and, Bool.false_and, Bool.and_false, Bool.or_true, Bool.or_false]; done) | (simp only [← hz24]; exact hz92)) _ _ hW hS ls (lv_sub hl [0, 1, 2, 3] rfl)
                · skip
                  refine lv_iconst (v := 1) hx hb dX5_count_132 (by decide) ?_
                  refine lv_goto (tgt := 137) hx hb dX5_count_133 (by decide) ?_
                  refine lv_iadd hx hb dX5_count_137 ?_
                  refine lv_istore_n (lv' := [(2, .int (n3 + 1)), (3, .int (nI q)), (0, .ref (ad 13 0)), (1, .int w)]) hx hb dX5_count_138 rfl hl (by decide) rfl (fun ls hl => ?_)
                  refine lv_iinc (v := nI (q + 1)) (lv' := [(3, .int (nI (q + 1))), (2, .int (n3 + 1)), (0, .ref (ad 13 0)), (1, .int w)]) hx hb dX5_count_139 hl (k := 1) rfl (nI_1 q) (by decide) rfl (fun ls hl => ?_)
                  refine lv_goto (tgt := 92) hx hb dX5_count_142 (by decide) ?_
                  exact ih92 (q + 1) (n3 + 1) (by omega) (by first | exact hz92 | (rw [← hz92]; simp [kLoop, mCnB, mCn1, mCnq, c_1, c_8, c_9, c_10, ← hz24]; done) | (simp [← hz92, kLoop, mCnB, mCn1, mCnq, c_1, c_8, c_9, c_10, ← hz24]; done) | (rw [← hz92]; simp only [kLoop, mCnB, mCn1, mCnq, c_1, c_8, c_9, c_10, ← hz24, eq_self, if_true, if_false, Bool.false_eq_true, decide_true, decide_false, Bool.not_true, Bool.not_false, Bool.false_or, Bool.true_or, Bool.and_true, Bool.true_and, Bool.false_and, Bool.and_false, Bool.or_true, Bool.or_false]; done) | (simp only [← hz24]; exact hz92)) _ _ hW hS ls (lv_sub hl [0, 1, 2, 3] rfl)
            · skip
              refine lv_aload_n hx hb dX5_count_107 rfl (lv_at hl 2 rfl) ?_
              refine w_get X hW 13 0 Nat.zero_lt_one rfl rfl inG5 24 (by decide) g522 rfl dX5_count_108 ?_
              refine lv_iload_n hx hb dX5_count_111 rfl (lv_at hl 0 rfl) ?_
              refine w_ialdN (i := q) X hW 44 0 Nat.zero_lt_one rfl (by omega) dX5_count_112 ?_
              refine lv_if_ge (tgt := 132) hx hb dX5_count_113 (by decide) (fun c_11 => ?_) (fun c_11 => ?_)
              · skip
                have c_11' : ¬ I2 44 0 q < 0 := Int32.not_lt.mpr c_11
                refine lv_iconst (v := 1) hx hb dX5_count_132 (by decide) ?_
                refine lv_goto (tgt := 137) hx hb dX5_count_133 (by decide) ?_
                refine lv_iadd hx hb dX5_count_137 ?_
                refine lv_istore_n (lv' := [(2, .int (n3 + 1)), (3, .int (nI q)), (0, .ref (ad 13 0)), (1, .int w)]) hx hb dX5_count_138 rfl hl (by decide) rfl (fun ls hl => ?_)
                refine lv_iinc (v := nI (q + 1)) (lv' := [(3, .int (nI (q + 1))), (2, .int (n3 + 1)), (0, .ref (ad 13 0)), (1, .int w)]) hx hb dX5_count_139 hl (k := 1) rfl (nI_1 q) (by decide) rfl (fun ls hl => ?_)
                refine lv_goto (tgt := 92) hx hb dX5_count_142 (by decide) ?_
                exact ih92 (q + 1) (n3 + 1) (by omega) (by first | exact hz92 | (rw [← hz92]; simp [kLoop, mCnB, mCn1, mCnq, c_1, c_8, c_11, c_11', ← hz24]; done) | (simp [← hz92, kLoop, mCnB, mCn1, mCnq, c_1, c_8, c_11, c_11', ← hz24]; done) | (rw [← hz92]; simp only [kLoop, mCnB, mCn1, mCnq, c_1, c_8, c_11, c_11', ← hz24, eq_self, if_true, if_false, Bool.false_eq_true, decide_true, decide_false, Bool.not_true, Bool.not_false, Bool.false_or, Bool.true_or, Bool.and_true, Bool.true_and, Bool.false_and, Bool.and_false, Bool.or_true, Bool.or_false]; done) | (simp only [← hz24]; exact hz92)) _ _ hW hS ls (lv_sub hl [0, 1, 2, 3] rfl)
              · skip
                have c_11' : I2 44 0 q < 0 := Int32.not_le.mp c_11
                refine lv_iload_n hx hb dX5_count_116 rfl (lv_at hl 3 rfl) ?_
                refine lv_bipush (v := 8) hx hb dX5_count_117 (by decide) ?_
                refine lv_icmp_ne (tgt := 136) hx hb dX5_count_119 (by decide) (fun _ => ?_) (fun c_12 => absurd (c_8.symm.trans c_12) (by decide))
                refine lv_iconst (v := 0) hx hb dX5_count_136 (by decide) ?_
                refine lv_iadd hx hb dX5_count_137 ?_
                refine lv_istore_n (lv' := [(2, .int (n3 + 0)), (3, .int (nI q)), (0, .ref (ad 13 0)), (1, .int w)]) hx hb dX5_count_138 rfl hl (by decide) rfl (fun ls hl => ?_)
                refine lv_iinc (v := nI (q + 1)) (lv' := [(3, .int (nI (q + 1))), (2, .int (n3 + 0)), (0, .ref (ad 13 0)), (1, .int w)]) hx hb dX5_count_139 hl (k := 1) rfl (nI_1 q) (by decide) rfl (fun ls hl => ?_)
                refine lv_goto (tgt := 92) hx hb dX5_count_142 (by decide) ?_
                exact ih92 (q + 1) (n3 + 0) (by omega) (by first | exact hz92 | (rw [← hz92]; simp [kLoop, mCnB, mCn1, mCnq, c_1, c_8, c_11, c_11', ← hz24]; done) | (simp [← hz92, kLoop, mCnB, mCn1, mCnq, c_1, c_8, c_11, c_11', ← hz24]; done) | (rw [← hz92]; simp only [kLoop, mCnB, mCn1, mCnq, c_1, c_8, c_11, c_11', ← hz24, eq_self, if_true, if_false, Bool.false_eq_true, decide_true, decide_false, Bool.not_true, Bool.not_false, Bool.false_or, Bool.true_or, Bool.and_true, Bool.true_and, Bool.false_and, Bool.and_false, Bool.or_true, Bool.or_false]; done) | (simp only [← hz24]; exact hz92)) _ _ hW hS ls (lv_sub hl [0, 1, 2, 3] rfl)
        exact loop92 mK 0 n (by omega) rfl _ _ hW hS ls (lv_sub hl [0, 1, 2, 3] rfl)
      | succ d ih =>
        intro a n hi24 hz24  H locs hW hS ls hl
        have hlt24 : a < mA := by omega
        have ih24 := ih
        refine lv_iload_n hx hb dX5_count_24 rfl (lv_at hl 0 rfl) ?_
        refine lv_aload_n hx hb dX5_count_25 rfl (lv_at hl 2 rfl) ?_
        refine w_get (v := .int (nI mA)) X hW 13 0 Nat.zero_lt_one rfl rfl inG5 6 (by decide) g504 (congrArg (fun z => some (Value.int z)) hs2.1) dX5_count_26 ?_
        refine lv_icmp_ge (tgt := 90) hx hb dX5_count_29 (by decide) (fun c_13 => absurd c_13 (nI_ge (a := a) (b := mA) (by omega) (by omega))) (fun _ => ?_)
        refine lv_iload_n hx hb dX5_count_32 rfl (lv_at hl 1 rfl) ?_
        refine lv_aload_n hx hb dX5_count_33 rfl (lv_at hl 2 rfl) ?_
        refine lv_iload_n hx hb dX5_count_34 rfl (lv_at hl 0 rfl) ?_
        refine lv_iload_n hx hb dX5_count_35 rfl (lv_at hl 3 rfl) ?_
        refine w_cV1 X hS (m_X5_counted l G ad nA nK mA mK E I2 J2 a w hs2 (by first | assumption | omega)) rfl rfl g771 g4 g768 g770 p50 hd_X5_counted ⟨Nat.le_of_ble_eq_true rfl, Nat.le_of_ble_eq_true rfl⟩ (k_rec X hW 13 0 Nat.zero_lt_one rfl rfl) hW hl.1 rfl (Nat.le_of_ble_eq_true rfl) dX5_count_36 (Nat.zero_le _) (Nat.zero_le _) (fun H locs hW hS => ?_)
        refine lv_iadd hx hb dX5_count_39 ?_
        refine lv_istore_n (lv' := [(2, .int (n + (mCounted I2 a w))), (3, .int (nI a)), (0, .ref (ad 13 0)), (1, .int w)]) hx hb dX5_count_40 rfl hl (by decide) rfl (fun ls hl => ?_)
        refine lv_iload_n hx hb dX5_count_41 rfl (lv_at hl 1 rfl) ?_
        refine lv_iconst (v := 1) hx hb dX5_count_42 (by decide) ?_
        refine lw_iaddN (a := a) (b := 1) hx hb dX5_count_43 ?_
        refine lv_istore (lv' := [(4, .int (nI (a + 1))), (2, .int (n + (mCounted I2 a w))), (3, .int (nI a)), (0, .ref (ad 13 0)), (1, .int w)]) hx hb dX5_count_44 hl (by decide) rfl (fun ls hl => ?_)
        have loop46 : ∀ (d2 b : Nat) (n2 : Int32), b + d2 = mA → (mCnB I2 J2 w a d2 b n2 = mCnB I2 J2 w a (mA - (a + 1)) (a + 1) (n + (mCounted I2 a w))) → ∀ (H : Heap) (locs : List Loc), Wd G ad nA nK I2 J2 H → va_S (k_A G) s.heap H locs → ∀ ls : Array Slot, lv_has ls 5 [(4, .int (nI b)), (2, .int n2), (3, .int (nI a)), (0, .ref (ad 13 0)), (1, .int w)] → W p l e { frames := 5, cells := 0, slots := 0, locals := 120 } s m ([.ref (ad 13 0), .int w] : List Value).toArray below meth c H locs 0 0 (MQ below (k_Q G (some (.int ((mcCount E mA mK w (I, J)).1))) (Wd G ad nA nK ((mcCount E mA mK w (I, J)).2.1) ((mcCount E mA mK w (I, J)).2.2))) ([.ref (ad 13 0), .int w] : List Value).toArray s 0 0 (k_A G)) (F0 m 46 ls []) := by
          intro d2
          induction d2 with
          | zero =>
            intro b n2 hi46 hz46  H locs hW hS ls hl
            refine lv_iload hx hb dX5_count_46 (lv_at hl 0 rfl) ?_
            refine lv_aload_n hx hb dX5_count_48 rfl (lv_at hl 3 rfl) ?_
            refine w_get (v := .int (nI mA)) X hW 13 0 Nat.zero_lt_one rfl rfl inG5 6 (by decide) g504 (congrArg (fun z => some (Value.int z)) hs2.1) dX5_count_49 ?_
            refine lv_icmp_ge (tgt := 84) hx hb dX5_count_52 (by decide) (fun _ => ?_) (fun c_14 => absurd (nI_le (a := mA) (b := b) (by omega) (by omega)) c_14)
            refine lv_iinc (v := nI (a + 1)) (lv' := [(3, .int (nI (a + 1))), (4, .int (nI b)), (2, .int n2), (0, .ref (ad 13 0)), (1, .int w)]) hx hb dX5_count_84 hl (k := 2) rfl (nI_1 a) (by decide) rfl (fun ls hl => ?_)
            refine lv_goto (tgt := 24) hx hb dX5_count_87 (by decide) ?_
            exact ih24 (a + 1) n2 (by omega) (by rw [← hz24, kLoop_s]; refine congrArg _ ?_; unfold mCn1; rw [← hz46]; first | rfl | simp [mCnB, ]) _ _ hW hS ls (lv_sub hl [0, 2, 3, 4] rfl)
          | succ d2 ih =>
            intro b n2 hi46 hz46  H locs hW hS ls hl
            have hlt46 : b < mA := by omega
            have ih46 := ih
            refine lv_iload hx hb dX5_count_46 (lv_at hl 0 rfl) ?_
            refine lv_aload_n hx hb dX5_count_48 rfl (lv_at hl 3 rfl) ?_
            refine w_get (v := .int (nI mA)) X hW 13 0 Nat.zero_lt_one rfl rfl inG5 6 (by decide) g504 (congrArg (fun z => some (Value.int z)) hs2.1) dX5_count_49 ?_
            refine lv_icmp_ge (tgt := 84) hx hb dX5_count_52 (by decide) (fun c_15 => absurd c_15 (nI_ge (a := b) (b := mA) (by omega) (by omega))) (fun _ => ?_)
            refine lv_iload_n hx hb dX5_count_55 rfl (lv_at hl 4 rfl) ?_
            refine lv_iconst (v := 5) hx hb dX5_count_56 (by decide) ?_
            refine lv_icmp_ne (tgt := 84) hx hb dX5_count_57 (by decide) (fun c_16 => ?_) (fun c_16 => ?_)
            · skip
              refine lv_iinc (v := nI (a + 1)) (lv' := [(3, .int (nI (a + 1))), (4, .int (nI b)), (2, .int n2), (0, .ref (ad 13 0)), (1, .int w)]) hx hb dX5_count_84 hl (k := 2) rfl (nI_1 a) (by decide) rfl (fun ls hl => ?_)
              refine lv_goto (tgt := 24) hx hb dX5_count_87 (by decide) ?_
              exact ih24 (a + 1) n2 (by omega) (by rw [← hz24, kLoop_s]; refine congrArg _ ?_; unfold mCn1; rw [← hz46]; first | rfl | simp [mCnB, c_16]) _ _ hW hS ls (lv_sub hl [0, 2, 3, 4] rfl)
            · skip
              refine lv_iload_n hx hb dX5_count_60 rfl (lv_at hl 1 rfl) ?_
              refine lv_aload_n hx hb dX5_count_61 rfl (lv_at hl 3 rfl) ?_
              refine lv_iload_n hx hb dX5_count_62 rfl (lv_at hl 2 rfl) ?_
              refine lv_iload hx hb dX5_count_63 (lv_at hl 0 rfl) ?_
              refine w_cV1 X hS (m_X5_quarrels l G ad nA nK mA mK E I2 J2 a b hs2 (by first | assumption | omega) (by first | assumption | omega)) rfl rfl g698 g4 g695 g697 p39 hd_X5_quarrels ⟨Nat.le_of_ble_eq_true rfl, Nat.le_of_ble_eq_true rfl⟩ (k_rec X hW 13 0 Nat.zero_lt_one rfl rfl) hW hl.1 rfl (Nat.le_of_ble_eq_true rfl) dX5_count_65 (Nat.zero_le _) (Nat.zero_le _) (fun H locs hW hS => ?_)
              refine lb_if_eq (tgt := 75) hx hb dX5_count_68 (by decide) (fun c_17 => ?_) (fun c_17 => ?_)
              · skip
                refine lv_iconst (v := 0) hx hb dX5_count_75 (by decide) ?_
                refine lv_iadd hx hb dX5_count_76 ?_
                refine lv_istore_n (lv' := [(2, .int (n2 + 0)), (4, .int (nI b)), (3, .int (nI a)), (0, .ref (ad 13 0)), (1, .int w)]) hx hb dX5_count_77 rfl hl (by decide) rfl (fun ls hl => ?_)
                refine lv_iinc (v := nI (b + 1)) (lv' := [(4, .int (nI (b + 1))), (2, .int (n2 + 0)), (3, .int (nI a)), (0, .ref (ad 13 0)), (1, .int w)]) hx hb dX5_count_78 hl (k := 1) rfl (nI_1 b) (by decide) rfl (fun ls hl => ?_)
                refine lv_goto (tgt := 46) hx hb dX5_count_81 (by decide) ?_
                exact ih46 (b + 1) (n2 + 0) (by omega) (by first | exact hz46 | (rw [← hz46]; simp [kLoop, mCnB, mCn1, mCnq, c_1, c_16, c_17]; done) | (simp [← hz46, kLoop, mCnB, mCn1, mCnq, c_1, c_16, c_17]; done) | (rw [← hz46]; simp only [kLoop, mCnB, mCn1, mCnq, c_1, c_16, c_17, eq_self, if_true, if_false, Bool.false_eq_true, decide_true, decide_false, Bool.not_true, Bool.not_false, Bool.false_or, Bool.true_or, Bool.and_true, Bool.true_and, Bool.false_and, Bool.and_false, Bool.or_true, Bool.or_false]; done)) _ _ hW hS ls (lv_sub hl [0, 1, 2, 3, 4] rfl)
              · skip
                refine lv_iconst (v := 1) hx hb dX5_count_71 (by decide) ?_
                refine lv_goto (tgt := 76) hx hb dX5_count_72 (by decide) ?_
                refine lv_iadd hx hb dX5_count_76 ?_
                refine lv_istore_n (lv' := [(2, .int (n2 + 1)), (4, .int (nI b)), (3, .int (nI a)), (0, .ref (ad 13 0)), (1, .int w)]) hx hb dX5_count_77 rfl hl (by decide) rfl (fun ls hl => ?_)
                refine lv_iinc (v := nI (b + 1)) (lv' := [(4, .int (nI (b + 1))), (2, .int (n2 + 1)), (3, .int (nI a)), (0, .ref (ad 13 0)), (1, .int w)]) hx hb dX5_count_78 hl (k := 1) rfl (nI_1 b) (by decide) rfl (fun ls hl => ?_)
                refine lv_goto (tgt := 46) hx hb dX5_count_81 (by decide) ?_
                exact ih46 (b + 1) (n2 + 1) (by omega) (by first | exact hz46 | (rw [← hz46]; simp [kLoop, mCnB, mCn1, mCnq, c_1, c_16, c_17]; done) | (simp [← hz46, kLoop, mCnB, mCn1, mCnq, c_1, c_16, c_17]; done) | (rw [← hz46]; simp only [kLoop, mCnB, mCn1, mCnq, c_1, c_16, c_17, eq_self, if_true, if_false, Bool.false_eq_true, decide_true, decide_false, Bool.not_true, Bool.not_false, Bool.false_or, Bool.true_or, Bool.and_true, Bool.true_and, Bool.false_and, Bool.and_false, Bool.or_true, Bool.or_false]; done)) _ _ hW hS ls (lv_sub hl [0, 1, 2, 3, 4] rfl)
        exact loop46 (mA - (a + 1)) (a + 1) (n + (mCounted I2 a w)) (by omega) rfl _ _ hW hS ls (lv_sub hl [0, 1, 2, 3, 4] rfl)
    exact loop24 mA 0 0 (by omega) rfl _ _ hW hS ls (lv_sub hl [0, 1, 2, 3] rfl)
  · skip
    refine lv_sipush (v := (-1002)) hx hb dX5_count_12 (by decide) ?_
    exact w_iret X hr hlk hS (by first | rfl | (simp [mcCount, c_1]; done) | (simp [mcCount, c_1]; rfl)) (hW.to (by first | rfl | (simp [mcCount, c_1]; done)) (by first | rfl | (simp [mcCount, c_1]; done))) dX5_count_15
