set_option maxHeartbeats 1200000 in
set_option maxRecDepth 100000 in
theorem m_X5_found (l : Launch) (G : k_G) (ad : Nat → Nat → Nat) (nA nK : Nat) (mA mK : Nat) (E : Nat → Nat) (I : k_I) (J : k_J) (k : Int32) (i : Int32) (w : Int32) (hs : m_S mA mK E I) : k_Met l yX5_found cX5_found 9 (some FieldType.int) { frames := 3, cells := 0, slots := 0, locals := 72 } G [.ref (ad 13 0), .int k, .int i, .int w] (Wd G ad nA nK I J) (some (.int ((mcFound E mA mK k i w (I, J)).1))) (Wd G ad nA nK ((mcFound E mA mK k i w (I, J)).2.1) ((mcFound E mA mK k i w (I, J)).2.2)) 0 0 := by
  refine k_body (by decide) (Nat.le_of_ble_eq_true rfl) ?_
  intro p e s m below meth c ls X hr hlk hnm hW hS hl
  have hx := X.1.1
  have hb := X.1.2.1
  have hG := X.1.2.2.2.2
  have hA24 := hs.2.2.1
  have hK30 := hs.2.2.2.1
  have hl : lv_has ls 9 [(0, .ref (ad 13 0)), (1, .int k), (2, .int i), (3, .int w)] := hl
  refine lv_aload_n hx hb dX5_found_0 rfl (lv_at hl 0 rfl) ?_
  refine lv_iload_n hx hb dX5_found_1 rfl (lv_at hl 1 rfl) ?_
  refine w_cV1 X hS (m_X5_isAsk l G ad nA nK mA mK E I J k hs) rfl rfl g724 g4 g721 g723 p42 hd_X5_isAsk ⟨Nat.le_of_ble_eq_true rfl, Nat.le_of_ble_eq_true rfl⟩ (k_rec X hW 13 0 Nat.zero_lt_one rfl rfl) hW hl.1 rfl (Nat.le_of_ble_eq_true rfl) dX5_found_2 (Nat.zero_le _) (Nat.zero_le _) (fun H locs hW hS => ?_)
  refine lb_if_ne (tgt := 12) hx hb dX5_found_5 (by decide) (fun c_1 => ?_) (fun c_1 => ?_)
  · skip
    obtain ⟨i2, hi2, rfl⟩ := mIs_nat (by omega) c_1
    have hk2 : kAns mK (nI i2) = some i2 := kAns_lt hi2 (by omega)
    have hl : lv_has ls 9 [(0, .ref (ad 13 0)), (1, .int (nI i2)), (2, .int i), (3, .int w)] := hl
    refine lv_iload_n hx hb dX5_found_12 rfl (lv_at hl 3 rfl) ?_
    refine lv_i2l (v := Int32.toInt64 w) hx hb dX5_found_13 rfl ?_
    refine lv_lconst (v := 0) hx hb dX5_found_14 (by decide) ?_
    refine lv_ldc2 hx hb X.1.2.2.2.1 (hG _ g742) dX5_found_15 ?_
    refine w_cS1 X hS (m_X5_in l G (Wd G ad nA nK I J) (Int32.toInt64 w) 0 2 ) rfl rfl g583 g4 g581 g582 hd_X5_in ⟨Nat.le_of_ble_eq_true rfl, Nat.le_of_ble_eq_true rfl⟩ hW hl.1 rfl (Nat.le_of_ble_eq_true rfl) dX5_found_18 (Nat.zero_le _) (Nat.zero_le _) (fun H locs hW hS => ?_)
    refine lb_if_ne (tgt := 28) hx hb dX5_found_21 (by decide) (fun c_3 => ?_) (fun c_3 => ?_)
    · skip
      refine lv_aload_n hx hb dX5_found_28 rfl (lv_at hl 0 rfl) ?_
      refine w_cVv X hS (m_X5_work l G ad nA nK mA mK E I J  hs) rfl rfl g631 g4 g628 g630 p32 hd_X5_work ⟨Nat.le_of_ble_eq_true rfl, Nat.le_of_ble_eq_true rfl⟩ (k_rec X hW 13 0 Nat.zero_lt_one rfl rfl) hW hl.1 rfl (Nat.le_of_ble_eq_true rfl) dX5_found_29 (Nat.zero_le _) (Nat.zero_le _) (fun H locs hW hS => ?_)
      obtain ⟨I4, eI4⟩ : ∃ z, z = (mWork E mA (I, J)).1 := ⟨_, rfl⟩
      rw [← eI4] at hW
      have hs4 : m_S mA mK E I4 := by rw [eI4]; exact (mWork_S (s := (I, J)) hs)
      obtain ⟨J4, eJ4⟩ : ∃ z, z = (mWork E mA (I, J)).2 := ⟨_, rfl⟩
      rw [← eJ4] at hW
      refine lv_iconst (v := 0) hx hb dX5_found_32 (by decide) ?_
      refine lv_istore (lv' := [(4, .int 0), (0, .ref (ad 13 0)), (1, .int (nI i2)), (2, .int i), (3, .int w)]) hx hb dX5_found_33 hl (by decide) rfl (fun ls hl => ?_)
      have loop35 : ∀ (d a : Nat), a + d = mA → (mFoF mA I4 J4 i2 i w d a = mFoF mA I4 J4 i2 i w mA 0) → ∀ (H : Heap) (locs : List Loc), Wd G ad nA nK I4 J4 H → va_S (k_A G) s.heap H locs → ∀ ls : Array Slot, lv_has ls 9 [(4, .int (nI a)), (0, .ref (ad 13 0)), (1, .int (nI i2)), (2, .int i), (3, .int w)] → W p l e { frames := 3, cells := 0, slots := 0, locals := 72 } s m ([.ref (ad 13 0), .int (nI i2), .int i, .int w] : List Value).toArray below meth c H locs 0 0 (MQ below (k_Q G (some (.int ((mcFound E mA mK (nI i2) i w (I, J)).1))) (Wd G ad nA nK ((mcFound E mA mK (nI i2) i w (I, J)).2.1) ((mcFound E mA mK (nI i2) i w (I, J)).2.2))) ([.ref (ad 13 0), .int (nI i2), .int i, .int w] : List Value).toArray s 0 0 (k_A G)) (F0 m 35 ls []) := by
        intro d
        induction d with
        | zero =>
          intro a hi35 hz35  H locs hW hS ls hl
          refine lv_iload hx hb dX5_found_35 (lv_at hl 0 rfl) ?_
          refine lv_aload_n hx hb dX5_found_37 rfl (lv_at hl 1 rfl) ?_
          refine w_get (v := .int (nI mA)) X hW 13 0 Nat.zero_lt_one rfl rfl inG5 6 (by decide) g504 (congrArg (fun z => some (Value.int z)) hs4.1) dX5_found_38 ?_
          refine lv_icmp_ge (tgt := 221) hx hb dX5_found_41 (by decide) (fun _ => ?_) (fun c_5 => absurd (nI_le (a := mA) (b := a) (by omega) (by omega)) c_5)
          refine lv_iconst (v := (-1)) hx hb dX5_found_221 (by decide) ?_
          exact w_iret X hr hlk hS (by rw [show (mcFound E mA mK (nI i2) i w (I, J)).1 = mFoF mA I4 J4 i2 i w mA 0 from (by simp [mcFound, hk2, c_3, eI4, eJ4]), ← hz35]; first | rfl | simp [mFoF, mF_c, c_1, hk2]) (hW.to (by simp [mcFound, hk2, c_3, eI4]) (by simp [mcFound, hk2, c_3, eJ4])) dX5_found_222
        | succ d ih =>
          intro a hi35 hz35  H locs hW hS ls hl
          have hlt35 : a < mA := by omega
          have ih35 := ih
          refine lv_iload hx hb dX5_found_35 (lv_at hl 0 rfl) ?_
          refine lv_aload_n hx hb dX5_found_37 rfl (lv_at hl 1 rfl) ?_
          refine w_get (v := .int (nI mA)) X hW 13 0 Nat.zero_lt_one rfl rfl inG5 6 (by decide) g504 (congrArg (fun z => some (Value.int z)) hs4.1) dX5_found_38 ?_
          refine lv_icmp_ge (tgt := 221) hx hb dX5_found_41 (by decide) (fun c_6 => absurd c_6 (nI_ge (a := a) (b := mA) (by omega) (by omega))) (fun _ => ?_)
          refine lv_aload_n hx hb dX5_found_44 rfl (lv_at hl 1 rfl) ?_
          refine lv_iload_n hx hb dX5_found_45 rfl (lv_at hl 2 rfl) ?_
          refine lv_iload hx hb dX5_found_46 (lv_at hl 0 rfl) ?_
          refine w_cV1 X hS (m_X5_isFit l G ad nA nK mA mK E I4 J4 i2 a hs4 (by first | assumption | omega) (by first | assumption | omega)) rfl rfl g728 g4 g725 g727 p43 hd_X5_isFit ⟨Nat.le_of_ble_eq_true rfl, Nat.le_of_ble_eq_true rfl⟩ (k_rec X hW 13 0 Nat.zero_lt_one rfl rfl) hW hl.1 rfl (Nat.le_of_ble_eq_true rfl) dX5_found_48 (Nat.zero_le _) (Nat.zero_le _) (fun H locs hW hS => ?_)
          refine lb_if_eq (tgt := 70) hx hb dX5_found_51 (by decide) (fun c_7 => ?_) (fun c_7 => ?_)
          · skip
            refine lv_aload_n hx hb dX5_found_70 rfl (lv_at hl 1 rfl) ?_
            refine w_get X hW 13 0 Nat.zero_lt_one rfl rfl inG5 5 (by decide) g503 rfl dX5_found_71 ?_
            refine lv_iconst (v := 1) hx hb dX5_found_74 (by decide) ?_
            refine lv_iadd hx hb dX5_found_75 ?_
            refine lv_istore (lv' := [(5, .int ((I4 13 0 5) + 1)), (4, .int (nI a)), (0, .ref (ad 13 0)), (1, .int (nI i2)), (2, .int i), (3, .int w)]) hx hb dX5_found_76 hl (by decide) rfl (fun ls hl => ?_)
            refine lv_iload hx hb dX5_found_78 (lv_at hl 0 rfl) ?_
            refine lv_aload_n hx hb dX5_found_80 rfl (lv_at hl 2 rfl) ?_
            refine w_get X hW 13 0 Nat.zero_lt_one rfl rfl inG5 5 (by decide) g503 rfl dX5_found_81 ?_
            refine lv_icmp_gt (tgt := 215) hx hb dX5_found_84 (by decide) (fun c_8 => ?_) (fun c_8 => ?_)
            · skip
              refine lv_iinc (v := nI (a + 1)) (lv' := [(4, .int (nI (a + 1))), (5, .int ((I4 13 0 5) + 1)), (0, .ref (ad 13 0)), (1, .int (nI i2)), (2, .int i), (3, .int w)]) hx hb dX5_found_215 hl (k := 1) rfl (nI_1 a) (by decide) rfl (fun ls hl => ?_)
              refine lv_goto (tgt := 35) hx hb dX5_found_218 (by decide) ?_
              exact ih35 (a + 1) (by omega) (by first | exact hz35 | (rw [← hz35]; simp [kLoop, mF_b1, mF_c, mFoF, c_1, hk2, c_3, c_7, c_8]; done) | (simp [← hz35, kLoop, mF_b1, mF_c, mFoF, c_1, hk2, c_3, c_7, c_8]; done) | (rw [← hz35]; simp only [kLoop, mF_b1, mF_c, mFoF, c_1, hk2, c_3, c_7, c_8, eq_self, if_true, if_false, Bool.false_eq_true, decide_true, decide_false, Bool.not_true, Bool.not_false, Bool.false_or, Bool.true_or, Bool.and_true, Bool.true_and, Bool.false_and, Bool.and_false, Bool.or_true, Bool.or_false]; done)) _ _ hW hS ls (lv_sub hl [0, 2, 3, 4, 5] rfl)
            · skip
              refine lv_iconst (v := 0) hx hb dX5_found_87 (by decide) ?_
              refine lv_istore (lv' := [(6, .int 0), (5, .int ((I4 13 0 5) + 1)), (4, .int (nI a)), (0, .ref (ad 13 0)), (1, .int (nI i2)), (2, .int i), (3, .int w)]) hx hb dX5_found_88 hl (by decide) rfl (fun ls hl => ?_)
              refine lv_iconst (v := 0) hx hb dX5_found_90 (by decide) ?_
              refine lv_istore (lv' := [(7, .int 0), (6, .int 0), (5, .int ((I4 13 0 5) + 1)), (4, .int (nI a)), (0, .ref (ad 13 0)), (1, .int (nI i2)), (2, .int i), (3, .int w)]) hx hb dX5_found_91 hl (by decide) rfl (fun ls hl => ?_)
              have loop93 : ∀ (d2 b : Nat) (n : Int32), b + d2 = mA → (kLoop (mF_b1 I4 J4 i2 a ((I4 13 0 5) + 1)) d2 b n = mF_n mA I4 J4 i2 a ((I4 13 0 5) + 1)) → ∀ (H : Heap) (locs : List Loc), Wd G ad nA nK I4 J4 H → va_S (k_A G) s.heap H locs → ∀ ls : Array Slot, lv_has ls 9 [(7, .int (nI b)), (6, .int n), (5, .int ((I4 13 0 5) + 1)), (4, .int (nI a)), (0, .ref (ad 13 0)), (1, .int (nI i2)), (2, .int i), (3, .int w)] → W p l e { frames := 3, cells := 0, slots := 0, locals := 72 } s m ([.ref (ad 13 0), .int (nI i2), .int i, .int w] : List Value).toArray below meth c H locs 0 0 (MQ below (k_Q G (some (.int ((mcFound E mA mK (nI i2) i w (I, J)).1))) (Wd G ad nA nK ((mcFound E mA mK (nI i2) i w (I, J)).2.1) ((mcFound E mA mK (nI i2) i w (I, J)).2.2))) ([.ref (ad 13 0), .int (nI i2), .int i, .int w] : List Value).toArray s 0 0 (k_A G)) (F0 m 93 ls []) := by
                intro d2
                induction d2 with
                | zero =>
                  intro b n hi93 hz93  H locs hW hS ls hl
                  have hz93 : n = mF_n mA I4 J4 i2 a ((I4 13 0 5) + 1) := hz93
                  refine lv_iload hx hb dX5_found_93 (lv_at hl 0 rfl) ?_
                  refine lv_aload_n hx hb dX5_found_95 rfl (lv_at hl 4 rfl) ?_
                  refine w_get (v := .int (nI mA)) X hW 13 0 Nat.zero_lt_one rfl rfl inG5 6 (by decide) g504 (congrArg (fun z => some (Value.int z)) hs4.1) dX5_found_96 ?_
                  refine lv_icmp_ge (tgt := 182) hx hb dX5_found_99 (by decide) (fun _ => ?_) (fun c_9 => absurd (nI_le (a := mA) (b := b) (by omega) (by omega)) c_9)
                  refine lv_iload hx hb dX5_found_182 (lv_at hl 1 rfl) ?_
                  refine lv_iload_n hx hb dX5_found_184 rfl (lv_at hl 6 rfl) ?_
                  refine lv_icmp_ne (tgt := 215) hx hb dX5_found_185 (by decide) (fun c_10 => ?_) (fun c_10 => ?_)
                  · skip
                    refine lv_iinc (v := nI (a + 1)) (lv' := [(4, .int (nI (a + 1))), (7, .int (nI b)), (6, .int n), (5, .int ((I4 13 0 5) + 1)), (0, .ref (ad 13 0)), (1, .int (nI i2)), (2, .int i), (3, .int w)]) hx hb dX5_found_215 hl (k := 3) rfl (nI_1 a) (by decide) rfl (fun ls hl => ?_)
                    refine lv_goto (tgt := 35) hx hb dX5_found_218 (by decide) ?_
                    exact ih35 (a + 1) (by omega) (by first | exact hz35 | (rw [← hz35]; simp [kLoop, mF_b1, mF_c, mFoF, c_1, hk2, c_3, c_7, c_8, c_10, ← hz93]; done) | (simp [← hz35, kLoop, mF_b1, mF_c, mFoF, c_1, hk2, c_3, c_7, c_8, c_10, ← hz93]; done) | (rw [← hz35]; simp only [kLoop, mF_b1, mF_c, mFoF, c_1, hk2, c_3, c_7, c_8, c_10, ← hz93, eq_self, if_true, if_false, Bool.false_eq_true, decide_true, decide_false, Bool.not_true, Bool.not_false, Bool.false_or, Bool.true_or, Bool.and_true, Bool.true_and, Bool.false_and, Bool.and_false, Bool.or_true, Bool.or_false]; done) | (simp only [← hz93]; exact hz35)) _ _ hW hS ls (lv_sub hl [0, 4, 5, 6, 7] rfl)
                  · skip
                    refine lv_iload_n hx hb dX5_found_188 rfl (lv_at hl 7 rfl) ?_
                    refine lv_if_ne (tgt := 197) hx hb dX5_found_189 (by decide) (fun c_11 => ?_) (fun c_11 => ?_)
                    · skip
                      refine lv_iload_n hx hb dX5_found_197 rfl (lv_at hl 7 rfl) ?_
                      refine lv_iconst (v := 1) hx hb dX5_found_198 (by decide) ?_
                      refine lv_icmp_ne (tgt := 207) hx hb dX5_found_199 (by decide) (fun c_12 => ?_) (fun c_12 => ?_)
                      · skip
                        refine lv_aload_n hx hb dX5_found_207 rfl (lv_at hl 4 rfl) ?_
                        refine lv_iload_n hx hb dX5_found_208 rfl (lv_at hl 5 rfl) ?_
                        refine lv_iload hx hb dX5_found_209 (lv_at hl 3 rfl) ?_
                        refine w_cV1 X hS (m_X5_questionOf l G ad nA nK mA mK E I4 J4 i2 a hs4 (by first | assumption | omega) (by first | assumption | omega)) rfl rfl g737 g4 g734 g736 p45 hd_X5_questionOf ⟨Nat.le_of_ble_eq_true rfl, Nat.le_of_ble_eq_true rfl⟩ (k_rec X hW 13 0 Nat.zero_lt_one rfl rfl) hW hl.1 rfl (Nat.le_of_ble_eq_true rfl) dX5_found_211 (Nat.zero_le _) (Nat.zero_le _) (fun H locs hW hS => ?_)
                        exact w_iret X hr hlk hS (by rw [show (mcFound E mA mK (nI i2) i w (I, J)).1 = mFoF mA I4 J4 i2 i w mA 0 from (by simp [mcFound, hk2, c_3, eI4, eJ4]), ← hz35]; first | rfl | simp [mFoF, mF_c, c_1, hk2, c_7, c_8, c_10, c_11, c_12, ← hz93]) (hW.to (by simp [mcFound, hk2, c_3, eI4]) (by simp [mcFound, hk2, c_3, eJ4])) dX5_found_214
                      · skip
                        refine lv_iload hx hb dX5_found_202 (lv_at hl 2 rfl) ?_
                        refine lv_goto (tgt := 214) hx hb dX5_found_204 (by decide) ?_
                        exact w_iret X hr hlk hS (by rw [show (mcFound E mA mK (nI i2) i w (I, J)).1 = mFoF mA I4 J4 i2 i w mA 0 from (by simp [mcFound, hk2, c_3, eI4, eJ4]), ← hz35]; first | rfl | simp [mFoF, mF_c, c_1, hk2, c_7, c_8, c_10, c_11, c_12, ← hz93]) (hW.to (by simp [mcFound, hk2, c_3, eI4]) (by simp [mcFound, hk2, c_3, eJ4])) dX5_found_214
                    · skip
                      refine lv_iload hx hb dX5_found_192 (lv_at hl 3 rfl) ?_
                      refine lv_goto (tgt := 214) hx hb dX5_found_194 (by decide) ?_
                      exact w_iret X hr hlk hS (by rw [show (mcFound E mA mK (nI i2) i w (I, J)).1 = mFoF mA I4 J4 i2 i w mA 0 from (by simp [mcFound, hk2, c_3, eI4, eJ4]), ← hz35]; first | rfl | simp [mFoF, mF_c, c_1, hk2, c_7, c_8, c_10, c_11, ← hz93]) (hW.to (by simp [mcFound, hk2, c_3, eI4]) (by simp [mcFound, hk2, c_3, eJ4])) dX5_found_214
                | succ d2 ih =>
                  intro b n hi93 hz93  H locs hW hS ls hl
                  have hlt93 : b < mA := by omega
                  have ih93 := ih
                  refine lv_iload hx hb dX5_found_93 (lv_at hl 0 rfl) ?_
                  refine lv_aload_n hx hb dX5_found_95 rfl (lv_at hl 4 rfl) ?_
                  refine w_get (v := .int (nI mA)) X hW 13 0 Nat.zero_lt_one rfl rfl inG5 6 (by decide) g504 (congrArg (fun z => some (Value.int z)) hs4.1) dX5_found_96 ?_
                  refine lv_icmp_ge (tgt := 182) hx hb dX5_found_99 (by decide) (fun c_13 => absurd c_13 (nI_ge (a := b) (b := mA) (by omega) (by omega))) (fun _ => ?_)
                  refine lv_aload_n hx hb dX5_found_102 rfl (lv_at hl 4 rfl) ?_
                  refine lv_iload_n hx hb dX5_found_103 rfl (lv_at hl 5 rfl) ?_
                  refine lv_iload hx hb dX5_found_104 (lv_at hl 0 rfl) ?_
                  refine w_cV1 X hS (m_X5_isFit l G ad nA nK mA mK E I4 J4 i2 b hs4 (by first | assumption | omega) (by first | assumption | omega)) rfl rfl g728 g4 g725 g727 p43 hd_X5_isFit ⟨Nat.le_of_ble_eq_true rfl, Nat.le_of_ble_eq_true rfl⟩ (k_rec X hW 13 0 Nat.zero_lt_one rfl rfl) hW hl.1 rfl (Nat.le_of_ble_eq_true rfl) dX5_found_106 (Nat.zero_le _) (Nat.zero_le _) (fun H locs hW hS => ?_)
                  refine lb_if_eq (tgt := 128) hx hb dX5_found_109 (by decide) (fun c_14 => ?_) (fun c_14 => ?_)
                  · skip
                    refine lv_aload_n hx hb dX5_found_128 rfl (lv_at hl 4 rfl) ?_
                    refine w_get X hW 13 0 Nat.zero_lt_one rfl rfl inG5 5 (by decide) g503 rfl dX5_found_129 ?_
                    refine lv_iconst (v := 1) hx hb dX5_found_132 (by decide) ?_
                    refine lv_iadd hx hb dX5_found_133 ?_
                    refine lv_istore (lv' := [(8, .int ((I4 13 0 5) + 1)), (7, .int (nI b)), (6, .int n), (5, .int ((I4 13 0 5) + 1)), (4, .int (nI a)), (0, .ref (ad 13 0)), (1, .int (nI i2)), (2, .int i), (3, .int w)]) hx hb dX5_found_134 hl (by decide) rfl (fun ls hl => ?_)
                    refine lv_iload hx hb dX5_found_136 (lv_at hl 2 rfl) ?_
                    refine lv_iload hx hb dX5_found_138 (lv_at hl 0 rfl) ?_
                    refine lv_aload_n hx hb dX5_found_140 rfl (lv_at hl 5 rfl) ?_
                    refine w_get X hW 13 0 Nat.zero_lt_one rfl rfl inG5 5 (by decide) g503 rfl dX5_found_141 ?_
                    refine lv_icmp_gt (tgt := 172) hx hb dX5_found_144 (by decide) (fun c_15 => absurd c_15 c_8) (fun _ => ?_)
                    refine lv_iload hx hb dX5_found_147 (lv_at hl 0 rfl) ?_
                    refine lv_iload hx hb dX5_found_149 (lv_at hl 3 rfl) ?_
                    refine lv_icmp_lt (tgt := 168) hx hb dX5_found_151 (by decide) (fun c_16 => ?_) (fun c_16 => ?_)
                    · skip
                      refine lv_iconst (v := 1) hx hb dX5_found_168 (by decide) ?_
                      refine lv_goto (tgt := 173) hx hb dX5_found_169 (by decide) ?_
                      refine lv_iadd hx hb dX5_found_173 ?_
                      refine lv_istore (lv' := [(6, .int (n + 1)), (8, .int ((I4 13 0 5) + 1)), (7, .int (nI b)), (5, .int ((I4 13 0 5) + 1)), (4, .int (nI a)), (0, .ref (ad 13 0)), (1, .int (nI i2)), (2, .int i), (3, .int w)]) hx hb dX5_found_174 hl (by decide) rfl (fun ls hl => ?_)
                      refine lv_iinc (v := nI (b + 1)) (lv' := [(7, .int (nI (b + 1))), (6, .int (n + 1)), (8, .int ((I4 13 0 5) + 1)), (5, .int ((I4 13 0 5) + 1)), (4, .int (nI a)), (0, .ref (ad 13 0)), (1, .int (nI i2)), (2, .int i), (3, .int w)]) hx hb dX5_found_176 hl (k := 2) rfl (nI_1 b) (by decide) rfl (fun ls hl => ?_)
                      refine lv_goto (tgt := 93) hx hb dX5_found_179 (by decide) ?_
                      exact ih93 (b + 1) (n + 1) (by omega) (by first | exact hz93 | (rw [← hz93]; simp [kLoop, mF_b1, mF_c, mFoF, c_1, hk2, c_3, c_7, c_8, c_14, c_16]; done) | (simp [← hz93, kLoop, mF_b1, mF_c, mFoF, c_1, hk2, c_3, c_7, c_8, c_14, c_16]; done) | (rw [← hz93]; simp only [kLoop, mF_b1, mF_c, mFoF, c_1, hk2, c_3, c_7, c_8, c_14, c_16, eq_self, if_true, if_false, Bool.false_eq_true, decide_true, decide_false, Bool.not_true, Bool.not_false, Bool.false_or, Bool.true_or, Bool.and_true, Bool.true_and, Bool.false_and, Bool.and_false, Bool.or_true, Bool.or_false]; done)) _ _ hW hS ls (lv_sub hl [0, 1, 3, 4, 5, 6, 7, 8] rfl)
                    · skip
                      refine lv_iload hx hb dX5_found_154 (lv_at hl 0 rfl) ?_
                      refine lv_iload hx hb dX5_found_156 (lv_at hl 3 rfl) ?_
                      refine lv_icmp_ne (tgt := 172) hx hb dX5_found_158 (by decide) (fun c_17 => absurd rfl c_17) (fun _ => ?_)
                      refine lv_iload hx hb dX5_found_161 (lv_at hl 1 rfl) ?_
                      refine lv_iload hx hb dX5_found_163 (lv_at hl 4 rfl) ?_
                      refine lv_icmp_ge (tgt := 172) hx hb dX5_found_165 (by decide) (fun c_18 => ?_) (fun c_18 => ?_)
                      · skip
                        refine lv_iconst (v := 0) hx hb dX5_found_172 (by decide) ?_
                        refine lv_iadd hx hb dX5_found_173 ?_
                        refine lv_istore (lv' := [(6, .int (n + 0)), (8, .int ((I4 13 0 5) + 1)), (7, .int (nI b)), (5, .int ((I4 13 0 5) + 1)), (4, .int (nI a)), (0, .ref (ad 13 0)), (1, .int (nI i2)), (2, .int i), (3, .int w)]) hx hb dX5_found_174 hl (by decide) rfl (fun ls hl => ?_)
                        refine lv_iinc (v := nI (b + 1)) (lv' := [(7, .int (nI (b + 1))), (6, .int (n + 0)), (8, .int ((I4 13 0 5) + 1)), (5, .int ((I4 13 0 5) + 1)), (4, .int (nI a)), (0, .ref (ad 13 0)), (1, .int (nI i2)), (2, .int i), (3, .int w)]) hx hb dX5_found_176 hl (k := 2) rfl (nI_1 b) (by decide) rfl (fun ls hl => ?_)
                        refine lv_goto (tgt := 93) hx hb dX5_found_179 (by decide) ?_
                        exact ih93 (b + 1) (n + 0) (by omega) (by first | exact hz93 | (rw [← hz93]; simp [kLoop, mF_b1, mF_c, mFoF, c_1, hk2, c_3, c_7, c_8, c_14, c_16, c_18]; done) | (simp [← hz93, kLoop, mF_b1, mF_c, mFoF, c_1, hk2, c_3, c_7, c_8, c_14, c_16, c_18]; done) | (rw [← hz93]; simp only [kLoop, mF_b1, mF_c, mFoF, c_1, hk2, c_3, c_7, c_8, c_14, c_16, c_18, eq_self, if_true, if_false, Bool.false_eq_true, decide_true, decide_false, Bool.not_true, Bool.not_false, Bool.false_or, Bool.true_or, Bool.and_true, Bool.true_and, Bool.false_and, Bool.and_false, Bool.or_true, Bool.or_false]; done)) _ _ hW hS ls (lv_sub hl [0, 1, 3, 4, 5, 6, 7, 8] rfl)
                      · skip
                        refine lv_iconst (v := 1) hx hb dX5_found_168 (by decide) ?_
                        refine lv_goto (tgt := 173) hx hb dX5_found_169 (by decide) ?_
                        refine lv_iadd hx hb dX5_found_173 ?_
                        refine lv_istore (lv' := [(6, .int (n + 1)), (8, .int ((I4 13 0 5) + 1)), (7, .int (nI b)), (5, .int ((I4 13 0 5) + 1)), (4, .int (nI a)), (0, .ref (ad 13 0)), (1, .int (nI i2)), (2, .int i), (3, .int w)]) hx hb dX5_found_174 hl (by decide) rfl (fun ls hl => ?_)
                        refine lv_iinc (v := nI (b + 1)) (lv' := [(7, .int (nI (b + 1))), (6, .int (n + 1)), (8, .int ((I4 13 0 5) + 1)), (5, .int ((I4 13 0 5) + 1)), (4, .int (nI a)), (0, .ref (ad 13 0)), (1, .int (nI i2)), (2, .int i), (3, .int w)]) hx hb dX5_found_176 hl (k := 2) rfl (nI_1 b) (by decide) rfl (fun ls hl => ?_)
                        refine lv_goto (tgt := 93) hx hb dX5_found_179 (by decide) ?_
                        exact ih93 (b + 1) (n + 1) (by omega) (by first | exact hz93 | (rw [← hz93]; simp [kLoop, mF_b1, mF_c, mFoF, c_1, hk2, c_3, c_7, c_8, c_14, c_16, c_18]; done) | (simp [← hz93, kLoop, mF_b1, mF_c, mFoF, c_1, hk2, c_3, c_7, c_8, c_14, c_16, c_18]; done) | (rw [← hz93]; simp only [kLoop, mF_b1, mF_c, mFoF, c_1, hk2, c_3, c_7, c_8, c_14, c_16, c_18, eq_self, if_true, if_false, Bool.false_eq_true, decide_true, decide_false, Bool.not_true, Bool.not_false, Bool.false_or, Bool.true_or, Bool.and_true, Bool.true_and, Bool.false_and, Bool.and_false, Bool.or_true, Bool.or_false]; done)) _ _ hW hS ls (lv_sub hl [0, 1, 3, 4, 5, 6, 7, 8] rfl)
                  · skip
                    refine lv_aload_n hx hb dX5_found_112 rfl (lv_at hl 4 rfl) ?_
                    refine lv_aload_n hx hb dX5_found_113 rfl (lv_at hl 4 rfl) ?_
                    refine w_get X hW 13 0 Nat.zero_lt_one rfl rfl inG5 17 (by decide) g515 rfl dX5_found_114 ?_
                    refine lv_iload_n hx hb dX5_found_117 rfl (lv_at hl 5 rfl) ?_
                    refine w_laldN (i := i2) X hW 37 0 Nat.zero_lt_one rfl (by omega) dX5_found_118 ?_
                    refine lv_iload_n hx hb dX5_found_119 rfl (lv_at hl 5 rfl) ?_
                    refine lv_iload hx hb dX5_found_120 (lv_at hl 0 rfl) ?_
                    refine w_cV1 X hS (m_X5_costWith l G ad nA nK mA mK E I4 J4 (J4 37 0 i2) i2 b hs4 (by first | assumption | omega) (by first | assumption | omega)) rfl rfl g732 g4 g729 g731 p44 hd_X5_costWith ⟨Nat.le_of_ble_eq_true rfl, Nat.le_of_ble_eq_true rfl⟩ (k_rec X hW 13 0 Nat.zero_lt_one rfl rfl) hW hl.1 rfl (Nat.le_of_ble_eq_true rfl) dX5_found_122 (Nat.zero_le _) (Nat.zero_le _) (fun H locs hW hS => ?_)
                    refine lv_goto (tgt := 134) hx hb dX5_found_125 (by decide) ?_
                    refine lv_istore (lv' := [(8, .int (mCost I4 J4 (J4 37 0 i2) i2 b)), (7, .int (nI b)), (6, .int n), (5, .int ((I4 13 0 5) + 1)), (4, .int (nI a)), (0, .ref (ad 13 0)), (1, .int (nI i2)), (2, .int i), (3, .int w)]) hx hb dX5_found_134 hl (by decide) rfl (fun ls hl => ?_)
                    refine lv_iload hx hb dX5_found_136 (lv_at hl 2 rfl) ?_
                    refine lv_iload hx hb dX5_found_138 (lv_at hl 0 rfl) ?_
                    refine lv_aload_n hx hb dX5_found_140 rfl (lv_at hl 5 rfl) ?_
                    refine w_get X hW 13 0 Nat.zero_lt_one rfl rfl inG5 5 (by decide) g503 rfl dX5_found_141 ?_
                    refine lv_icmp_gt (tgt := 172) hx hb dX5_found_144 (by decide) (fun c_19 => ?_) (fun c_19 => ?_)
                    · skip
                      refine lv_iconst (v := 0) hx hb dX5_found_172 (by decide) ?_
                      refine lv_iadd hx hb dX5_found_173 ?_
                      refine lv_istore (lv' := [(6, .int (n + 0)), (8, .int (mCost I4 J4 (J4 37 0 i2) i2 b)), (7, .int (nI b)), (5, .int ((I4 13 0 5) + 1)), (4, .int (nI a)), (0, .ref (ad 13 0)), (1, .int (nI i2)), (2, .int i), (3, .int w)]) hx hb dX5_found_174 hl (by decide) rfl (fun ls hl => ?_)
                      refine lv_iinc (v := nI (b + 1)) (lv' := [(7, .int (nI (b + 1))), (6, .int (n + 0)), (8, .int (mCost I4 J4 (J4 37 0 i2) i2 b)), (5, .int ((I4 13 0 5) + 1)), (4, .int (nI a)), (0, .ref (ad 13 0)), (1, .int (nI i2)), (2, .int i), (3, .int w)]) hx hb dX5_found_176 hl (k := 2) rfl (nI_1 b) (by decide) rfl (fun ls hl => ?_)
                      refine lv_goto (tgt := 93) hx hb dX5_found_179 (by decide) ?_
                      exact ih93 (b + 1) (n + 0) (by omega) (by first | exact hz93 | (rw [← hz93]; simp [kLoop, mF_b1, mF_c, mFoF, c_1, hk2, c_3, c_7, c_8, c_14, c_19]; done) | (simp [← hz93, kLoop, mF_b1, mF_c, mFoF, c_1, hk2, c_3, c_7, c_8, c_14, c_19]; done) | (rw [← hz93]; simp only [kLoop, mF_b1, mF_c, mFoF, c_1, hk2, c_3, c_7, c_8, c_14, c_19, eq_self, if_true, if_false, Bool.false_eq_true, decide_true, decide_false, Bool.not_true, Bool.not_false, Bool.false_or, Bool.true_or, Bool.and_true, Bool.true_and, Bool.false_and, Bool.and_false, Bool.or_true, Bool.or_false]; done)) _ _ hW hS ls (lv_sub hl [0, 1, 3, 4, 5, 6, 7, 8] rfl)
                    · skip
                      refine lv_iload hx hb dX5_found_147 (lv_at hl 0 rfl) ?_
                      refine lv_iload hx hb dX5_found_149 (lv_at hl 3 rfl) ?_
                      refine lv_icmp_lt (tgt := 168) hx hb dX5_found_151 (by decide) (fun c_20 => ?_) (fun c_20 => ?_)
                      · skip
                        refine lv_iconst (v := 1) hx hb dX5_found_168 (by decide) ?_
                        refine lv_goto (tgt := 173) hx hb dX5_found_169 (by decide) ?_
                        refine lv_iadd hx hb dX5_found_173 ?_
                        refine lv_istore (lv' := [(6, .int (n + 1)), (8, .int (mCost I4 J4 (J4 37 0 i2) i2 b)), (7, .int (nI b)), (5, .int ((I4 13 0 5) + 1)), (4, .int (nI a)), (0, .ref (ad 13 0)), (1, .int (nI i2)), (2, .int i), (3, .int w)]) hx hb dX5_found_174 hl (by decide) rfl (fun ls hl => ?_)
                        refine lv_iinc (v := nI (b + 1)) (lv' := [(7, .int (nI (b + 1))), (6, .int (n + 1)), (8, .int (mCost I4 J4 (J4 37 0 i2) i2 b)), (5, .int ((I4 13 0 5) + 1)), (4, .int (nI a)), (0, .ref (ad 13 0)), (1, .int (nI i2)), (2, .int i), (3, .int w)]) hx hb dX5_found_176 hl (k := 2) rfl (nI_1 b) (by decide) rfl (fun ls hl => ?_)
                        refine lv_goto (tgt := 93) hx hb dX5_found_179 (by decide) ?_
                        exact ih93 (b + 1) (n + 1) (by omega) (by first | exact hz93 | (rw [← hz93]; simp [kLoop, mF_b1, mF_c, mFoF, c_1, hk2, c_3, c_7, c_8, c_14, c_19, c_20]; done) | (simp [← hz93, kLoop, mF_b1, mF_c, mFoF, c_1, hk2, c_3, c_7, c_8, c_14, c_19, c_20]; done) | (rw [← hz93]; simp only [kLoop, mF_b1, mF_c, mFoF, c_1, hk2, c_3, c_7, c_8, c_14, c_19, c_20, eq_self, if_true, if_false, Bool.false_eq_true, decide_true, decide_false, Bool.not_true, Bool.not_false, Bool.false_or, Bool.true_or, Bool.and_true, Bool.true_and, Bool.false_and, Bool.and_false, Bool.or_true, Bool.or_false]; done)) _ _ hW hS ls (lv_sub hl [0, 1, 3, 4, 5, 6, 7, 8] rfl)
                      · skip
                        refine lv_iload hx hb dX5_found_154 (lv_at hl 0 rfl) ?_
                        refine lv_iload hx hb dX5_found_156 (lv_at hl 3 rfl) ?_
                        refine lv_icmp_ne (tgt := 172) hx hb dX5_found_158 (by decide) (fun c_21 => ?_) (fun c_21 => ?_)
                        · skip
                          refine lv_iconst (v := 0) hx hb dX5_found_172 (by decide) ?_
                          refine lv_iadd hx hb dX5_found_173 ?_
                          refine lv_istore (lv' := [(6, .int (n + 0)), (8, .int (mCost I4 J4 (J4 37 0 i2) i2 b)), (7, .int (nI b)), (5, .int ((I4 13 0 5) + 1)), (4, .int (nI a)), (0, .ref (ad 13 0)), (1, .int (nI i2)), (2, .int i), (3, .int w)]) hx hb dX5_found_174 hl (by decide) rfl (fun ls hl => ?_)
                          refine lv_iinc (v := nI (b + 1)) (lv' := [(7, .int (nI (b + 1))), (6, .int (n + 0)), (8, .int (mCost I4 J4 (J4 37 0 i2) i2 b)), (5, .int ((I4 13 0 5) + 1)), (4, .int (nI a)), (0, .ref (ad 13 0)), (1, .int (nI i2)), (2, .int i), (3, .int w)]) hx hb dX5_found_176 hl (k := 2) rfl (nI_1 b) (by decide) rfl (fun ls hl => ?_)
                          refine lv_goto (tgt := 93) hx hb dX5_found_179 (by decide) ?_
                          exact ih93 (b + 1) (n + 0) (by omega) (by first | exact hz93 | (rw [← hz93]; simp [kLoop, mF_b1, mF_c, mFoF, c_1, hk2, c_3, c_7, c_8, c_14, c_19, c_20, c_21]; done) | (simp [← hz93, kLoop, mF_b1, mF_c, mFoF, c_1, hk2, c_3, c_7, c_8, c_14, c_19, c_20, c_21]; done) | (rw [← hz93]; simp only [kLoop, mF_b1, mF_c, mFoF, c_1, hk2, c_3, c_7, c_8, c_14, c_19, c_20, c_21, eq_self, if_true, if_false, Bool.false_eq_true, decide_true, decide_false, Bool.not_true, Bool.not_false, Bool.false_or, Bool.true_or, Bool.and_true, Bool.true_and, Bool.false_and, Bool.and_false, Bool.or_true, Bool.or_false]; done)) _ _ hW hS ls (lv_sub hl [0, 1, 3, 4, 5, 6, 7, 8] rfl)
                        · skip
                          refine lv_iload hx hb dX5_found_161 (lv_at hl 1 rfl) ?_
                          refine lv_iload hx hb dX5_found_163 (lv_at hl 4 rfl) ?_
                          refine lv_icmp_ge (tgt := 172) hx hb dX5_found_165 (by decide) (fun c_22 => ?_) (fun c_22 => ?_)
                          · skip
                            refine lv_iconst (v := 0) hx hb dX5_found_172 (by decide) ?_
                            refine lv_iadd hx hb dX5_found_173 ?_
                            refine lv_istore (lv' := [(6, .int (n + 0)), (8, .int (mCost I4 J4 (J4 37 0 i2) i2 b)), (7, .int (nI b)), (5, .int ((I4 13 0 5) + 1)), (4, .int (nI a)), (0, .ref (ad 13 0)), (1, .int (nI i2)), (2, .int i), (3, .int w)]) hx hb dX5_found_174 hl (by decide) rfl (fun ls hl => ?_)
                            refine lv_iinc (v := nI (b + 1)) (lv' := [(7, .int (nI (b + 1))), (6, .int (n + 0)), (8, .int (mCost I4 J4 (J4 37 0 i2) i2 b)), (5, .int ((I4 13 0 5) + 1)), (4, .int (nI a)), (0, .ref (ad 13 0)), (1, .int (nI i2)), (2, .int i), (3, .int w)]) hx hb dX5_found_176 hl (k := 2) rfl (nI_1 b) (by decide) rfl (fun ls hl => ?_)
                            refine lv_goto (tgt := 93) hx hb dX5_found_179 (by decide) ?_
                            exact ih93 (b + 1) (n + 0) (by omega) (by first | exact hz93 | (rw [← hz93]; simp [kLoop, mF_b1, mF_c, mFoF, c_1, hk2, c_3, c_7, c_8, c_14, c_19, c_20, c_21, c_22]; done) | (simp [← hz93, kLoop, mF_b1, mF_c, mFoF, c_1, hk2, c_3, c_7, c_8, c_14, c_19, c_20, c_21, c_22]; done) | (rw [← hz93]; simp only [kLoop, mF_b1, mF_c, mFoF, c_1, hk2, c_3, c_7, c_8, c_14, c_19, c_20, c_21, c_22, eq_self, if_true, if_false, Bool.false_eq_true, decide_true, decide_false, Bool.not_true, Bool.not_false, Bool.false_or, Bool.true_or, Bool.and_true, Bool.true_and, Bool.false_and, Bool.and_false, Bool.or_true, Bool.or_false]; done)) _ _ hW hS ls (lv_sub hl [0, 1, 3, 4, 5, 6, 7, 8] rfl)
                          · skip
                            refine lv_iconst (v := 1) hx hb dX5_found_168 (by decide) ?_
                            refine lv_goto (tgt := 173) hx hb dX5_found_169 (by decide) ?_
                            refine lv_iadd hx hb dX5_found_173 ?_
                            refine lv_istore (lv' := [(6, .int (n + 1)), (8, .int (mCost I4 J4 (J4 37 0 i2) i2 b)), (7, .int (nI b)), (5, .int ((I4 13 0 5) + 1)), (4, .int (nI a)), (0, .ref (ad 13 0)), (1, .int (nI i2)), (2, .int i), (3, .int w)]) hx hb dX5_found_174 hl (by decide) rfl (fun ls hl => ?_)
                            refine lv_iinc (v := nI (b + 1)) (lv' := [(7, .int (nI (b + 1))), (6, .int (n + 1)), (8, .int (mCost I4 J4 (J4 37 0 i2) i2 b)), (5, .int ((I4 13 0 5) + 1)), (4, .int (nI a)), (0, .ref (ad 13 0)), (1, .int (nI i2)), (2, .int i), (3, .int w)]) hx hb dX5_found_176 hl (k := 2) rfl (nI_1 b) (by decide) rfl (fun ls hl => ?_)
                            refine lv_goto (tgt := 93) hx hb dX5_found_179 (by decide) ?_
                            exact ih93 (b + 1) (n + 1) (by omega) (by first | exact hz93 | (rw [← hz93]; simp [kLoop, mF_b1, mF_c, mFoF, c_1, hk2, c_3, c_7, c_8, c_14, c_19, c_20, c_21, c_22]; done) | (simp [← hz93, kLoop, mF_b1, mF_c, mFoF, c_1, hk2, c_3, c_7, c_8, c_14, c_19, c_20, c_21, c_22]; done) | (rw [← hz93]; simp only [kLoop, mF_b1, mF_c, mFoF, c_1, hk2, c_3, c_7, c_8, c_14, c_19, c_20, c_21, c_22, eq_self, if_true, if_false, Bool.false_eq_true, decide_true, decide_false, Bool.not_true, Bool.not_false, Bool.false_or, Bool.true_or, Bool.and_true, Bool.true_and, Bool.false_and, Bool.and_false, Bool.or_true, Bool.or_false]; done)) _ _ hW hS ls (lv_sub hl [0, 1, 3, 4, 5, 6, 7, 8] rfl)
              exact loop93 mA 0 0 (by omega) rfl _ _ hW hS ls (lv_sub hl [0, 1, 2, 3, 4, 5, 6, 7] rfl)
          · skip
            refine lv_aload_n hx hb dX5_found_54 rfl (lv_at hl 1 rfl) ?_
            refine lv_aload_n hx hb dX5_found_55 rfl (lv_at hl 1 rfl) ?_
            refine w_get X hW 13 0 Nat.zero_lt_one rfl rfl inG5 17 (by decide) g515 rfl dX5_found_56 ?_
            refine lv_iload_n hx hb dX5_found_59 rfl (lv_at hl 2 rfl) ?_
            refine w_laldN (i := i2) X hW 37 0 Nat.zero_lt_one rfl (by omega) dX5_found_60 ?_
            refine lv_iload_n hx hb dX5_found_61 rfl (lv_at hl 2 rfl) ?_
            refine lv_iload hx hb dX5_found_62 (lv_at hl 0 rfl) ?_
            refine w_cV1 X hS (m_X5_costWith l G ad nA nK mA mK E I4 J4 (J4 37 0 i2) i2 a hs4 (by first | assumption | omega) (by first | assumption | omega)) rfl rfl g732 g4 g729 g731 p44 hd_X5_costWith ⟨Nat.le_of_ble_eq_true rfl, Nat.le_of_ble_eq_true rfl⟩ (k_rec X hW 13 0 Nat.zero_lt_one rfl rfl) hW hl.1 rfl (Nat.le_of_ble_eq_true rfl) dX5_found_64 (Nat.zero_le _) (Nat.zero_le _) (fun H locs hW hS => ?_)
            refine lv_goto (tgt := 76) hx hb dX5_found_67 (by decide) ?_
            refine lv_istore (lv' := [(5, .int (mCost I4 J4 (J4 37 0 i2) i2 a)), (4, .int (nI a)), (0, .ref (ad 13 0)), (1, .int (nI i2)), (2, .int i), (3, .int w)]) hx hb dX5_found_76 hl (by decide) rfl (fun ls hl => ?_)
            refine lv_iload hx hb dX5_found_78 (lv_at hl 0 rfl) ?_
            refine lv_aload_n hx hb dX5_found_80 rfl (lv_at hl 2 rfl) ?_
            refine w_get X hW 13 0 Nat.zero_lt_one rfl rfl inG5 5 (by decide) g503 rfl dX5_found_81 ?_
            refine lv_icmp_gt (tgt := 215) hx hb dX5_found_84 (by decide) (fun c_23 => ?_) (fun c_23 => ?_)
            · skip
              refine lv_iinc (v := nI (a + 1)) (lv' := [(4, .int (nI (a + 1))), (5, .int (mCost I4 J4 (J4 37 0 i2) i2 a)), (0, .ref (ad 13 0)), (1, .int (nI i2)), (2, .int i), (3, .int w)]) hx hb dX5_found_215 hl (k := 1) rfl (nI_1 a) (by decide) rfl (fun ls hl => ?_)
              refine lv_goto (tgt := 35) hx hb dX5_found_218 (by decide) ?_
              exact ih35 (a + 1) (by omega) (by first | exact hz35 | (rw [← hz35]; simp [kLoop, mF_b1, mF_c, mFoF, c_1, hk2, c_3, c_7, c_23]; done) | (simp [← hz35, kLoop, mF_b1, mF_c, mFoF, c_1, hk2, c_3, c_7, c_23]; done) | (rw [← hz35]; simp only [kLoop, mF_b1, mF_c, mFoF, c_1, hk2, c_3, c_7, c_23, eq_self, if_true, if_false, Bool.false_eq_true, decide_true, decide_false, Bool.not_true, Bool.not_false, Bool.false_or, Bool.true_or, Bool.and_true, Bool.true_and, Bool.false_and, Bool.and_false, Bool.or_true, Bool.or_false]; done)) _ _ hW hS ls (lv_sub hl [0, 2, 3, 4, 5] rfl)
            · skip
              refine lv_iconst (v := 0) hx hb dX5_found_87 (by decide) ?_
              refine lv_istore (lv' := [(6, .int 0), (5, .int (mCost I4 J4 (J4 37 0 i2) i2 a)), (4, .int (nI a)), (0, .ref (ad 13 0)), (1, .int (nI i2)), (2, .int i), (3, .int w)]) hx hb dX5_found_88 hl (by decide) rfl (fun ls hl => ?_)
              refine lv_iconst (v := 0) hx hb dX5_found_90 (by decide) ?_
              refine lv_istore (lv' := [(7, .int 0), (6, .int 0), (5, .int (mCost I4 J4 (J4 37 0 i2) i2 a)), (4, .int (nI a)), (0, .ref (ad 13 0)), (1, .int (nI i2)), (2, .int i), (3, .int w)]) hx hb dX5_found_91 hl (by decide) rfl (fun ls hl => ?_)
              have loop93 : ∀ (d2 b : Nat) (n : Int32), b + d2 = mA → (kLoop (mF_b1 I4 J4 i2 a (mCost I4 J4 (J4 37 0 i2) i2 a)) d2 b n = mF_n mA I4 J4 i2 a (mCost I4 J4 (J4 37 0 i2) i2 a)) → ∀ (H : Heap) (locs : List Loc), Wd G ad nA nK I4 J4 H → va_S (k_A G) s.heap H locs → ∀ ls : Array Slot, lv_has ls 9 [(7, .int (nI b)), (6, .int n), (5, .int (mCost I4 J4 (J4 37 0 i2) i2 a)), (4, .int (nI a)), (0, .ref (ad 13 0)), (1, .int (nI i2)), (2, .int i), (3, .int w)] → W p l e { frames := 3, cells := 0, slots := 0, locals := 72 } s m ([.ref (ad 13 0), .int (nI i2), .int i, .int w] : List Value).toArray below meth c H locs 0 0 (MQ below (k_Q G (some (.int ((mcFound E mA mK (nI i2) i w (I, J)).1))) (Wd G ad nA nK ((mcFound E mA mK (nI i2) i w (I, J)).2.1) ((mcFound E mA mK (nI i2) i w (I, J)).2.2))) ([.ref (ad 13 0), .int (nI i2), .int i, .int w] : List Value).toArray s 0 0 (k_A G)) (F0 m 93 ls []) := by
                intro d2
                induction d2 with
                | zero =>
                  intro b n hi93 hz93  H locs hW hS ls hl
                  have hz93 : n = mF_n mA I4 J4 i2 a (mCost I4 J4 (J4 37 0 i2) i2 a) := hz93
                  refine lv_iload hx hb dX5_found_93 (lv_at hl 0 rfl) ?_
                  refine lv_aload_n hx hb dX5_found_95 rfl (lv_at hl 4 rfl) ?_
                  refine w_get (v := .int (nI mA)) X hW 13 0 Nat.zero_lt_one rfl rfl inG5 6 (by decide) g504 (congrArg (fun z => some (Value.int z)) hs4.1) dX5_found_96 ?_
                  refine lv_icmp_ge (tgt := 182) hx hb dX5_found_99 (by decide) (fun _ => ?_) (fun c_24 => absurd (nI_le (a := mA) (b := b) (by omega) (by omega)) c_24)
                  refine lv_iload hx hb dX5_found_182 (lv_at hl 1 rfl) ?_
                  refine lv_iload_n hx hb dX5_found_184 rfl (lv_at hl 6 rfl) ?_
                  refine lv_icmp_ne (tgt := 215) hx hb dX5_found_185 (by decide) (fun c_25 => ?_) (fun c_25 => ?_)
                  · skip
                    refine lv_iinc (v := nI (a + 1)) (lv' := [(4, .int (nI (a + 1))), (7, .int (nI b)), (6, .int n), (5, .int (mCost I4 J4 (J4 37 0 i2) i2 a)), (0, .ref (ad 13 0)), (1, .int (nI i2)), (2, .int i), (3, .int w)]) hx hb dX5_found_215 hl (k := 3) rfl (nI_1 a) (by decide) rfl (fun ls hl => ?_)
                    refine lv_goto (tgt := 35) hx hb dX5_found_218 (by decide) ?_
                    exact ih35 (a + 1) (by omega) (by first | exact hz35 | (rw [← hz35]; simp [kLoop, mF_b1, mF_c, mFoF, c_1, hk2, c_3, c_7, c_23, c_25, ← hz93]; done) | (simp [← hz35, kLoop, mF_b1, mF_c, mFoF, c_1, hk2, c_3, c_7, c_23, c_25, ← hz93]; done) | (rw [← hz35]; simp only [kLoop, mF_b1, mF_c, mFoF, c_1, hk2, c_3, c_7, c_23, c_25, ← hz93, eq_self, if_true, if_false, Bool.false_eq_true, decide_true, decide_false, Bool.not_true, Bool.not_false, Bool.false_or, Bool.true_or, Bool.and_true, Bool.true_and, Bool.false_and, Bool.and_false, Bool.or_true, Bool.or_false]; done) | (simp only [← hz93]; exact hz35)) _ _ hW hS ls (lv_sub hl [0, 4, 5, 6, 7] rfl)
                  · skip
                    refine lv_iload_n hx hb dX5_found_188 rfl (lv_at hl 7 rfl) ?_
                    refine lv_if_ne (tgt := 197) hx hb dX5_found_189 (by decide) (fun c_26 => ?_) (fun c_26 => ?_)
                    · skip
                      refine lv_iload_n hx hb dX5_found_197 rfl (lv_at hl 7 rfl) ?_
                      refine lv_iconst (v := 1) hx hb dX5_found_198 (by decide) ?_
                      refine lv_icmp_ne (tgt := 207) hx hb dX5_found_199 (by decide) (fun c_27 => ?_) (fun c_27 => ?_)
                      · skip
                        refine lv_aload_n hx hb dX5_found_207 rfl (lv_at hl 4 rfl) ?_
                        refine lv_iload_n hx hb dX5_found_208 rfl (lv_at hl 5 rfl) ?_
                        refine lv_iload hx hb dX5_found_209 (lv_at hl 3 rfl) ?_
                        refine w_cV1 X hS (m_X5_questionOf l G ad nA nK mA mK E I4 J4 i2 a hs4 (by first | assumption | omega) (by first | assumption | omega)) rfl rfl g737 g4 g734 g736 p45 hd_X5_questionOf ⟨Nat.le_of_ble_eq_true rfl, Nat.le_of_ble_eq_true rfl⟩ (k_rec X hW 13 0 Nat.zero_lt_one rfl rfl) hW hl.1 rfl (Nat.le_of_ble_eq_true rfl) dX5_found_211 (Nat.zero_le _) (Nat.zero_le _) (fun H locs hW hS => ?_)
                        exact w_iret X hr hlk hS (by rw [show (mcFound E mA mK (nI i2) i w (I, J)).1 = mFoF mA I4 J4 i2 i w mA 0 from (by simp [mcFound, hk2, c_3, eI4, eJ4]), ← hz35]; first | rfl | simp [mFoF, mF_c, c_1, hk2, c_7, c_23, c_25, c_26, c_27, ← hz93]) (hW.to (by simp [mcFound, hk2, c_3, eI4]) (by simp [mcFound, hk2, c_3, eJ4])) dX5_found_214
                      · skip
                        refine lv_iload hx hb dX5_found_202 (lv_at hl 2 rfl) ?_
                        refine lv_goto (tgt := 214) hx hb dX5_found_204 (by decide) ?_
                        exact w_iret X hr hlk hS (by rw [show (mcFound E mA mK (nI i2) i w (I, J)).1 = mFoF mA I4 J4 i2 i w mA 0 from (by simp [mcFound, hk2, c_3, eI4, eJ4]), ← hz35]; first | rfl | simp [mFoF, mF_c, c_1, hk2, c_7, c_23, c_25, c_26, c_27, ← hz93]) (hW.to (by simp [mcFound, hk2, c_3, eI4]) (by simp [mcFound, hk2, c_3, eJ4])) dX5_found_214
                    · skip
                      refine lv_iload hx hb dX5_found_192 (lv_at hl 3 rfl) ?_
                      refine lv_goto (tgt := 214) hx hb dX5_found_194 (by decide) ?_
                      exact w_iret X hr hlk hS (by rw [show (mcFound E mA mK (nI i2) i w (I, J)).1 = mFoF mA I4 J4 i2 i w mA 0 from (by simp [mcFound, hk2, c_3, eI4, eJ4]), ← hz35]; first | rfl | simp [mFoF, mF_c, c_1, hk2, c_7, c_23, c_25, c_26, ← hz93]) (hW.to (by simp [mcFound, hk2, c_3, eI4]) (by simp [mcFound, hk2, c_3, eJ4])) dX5_found_214
                | succ d2 ih =>
                  intro b n hi93 hz93  H locs hW hS ls hl
                  have hlt93 : b < mA := by omega
                  have ih93 := ih
                  refine lv_iload hx hb dX5_found_93 (lv_at hl 0 rfl) ?_
                  refine lv_aload_n hx hb dX5_found_95 rfl (lv_at hl 4 rfl) ?_
                  refine w_get (v := .int (nI mA)) X hW 13 0 Nat.zero_lt_one rfl rfl inG5 6 (by decide) g504 (congrArg (fun z => some (Value.int z)) hs4.1) dX5_found_96 ?_
                  refine lv_icmp_ge (tgt := 182) hx hb dX5_found_99 (by decide) (fun c_28 => absurd c_28 (nI_ge (a := b) (b := mA) (by omega) (by omega))) (fun _ => ?_)
                  refine lv_aload_n hx hb dX5_found_102 rfl (lv_at hl 4 rfl) ?_
                  refine lv_iload_n hx hb dX5_found_103 rfl (lv_at hl 5 rfl) ?_
                  refine lv_iload hx hb dX5_found_104 (lv_at hl 0 rfl) ?_
                  refine w_cV1 X hS (m_X5_isFit l G ad nA nK mA mK E I4 J4 i2 b hs4 (by first | assumption | omega) (by first | assumption | omega)) rfl rfl g728 g4 g725 g727 p43 hd_X5_isFit ⟨Nat.le_of_ble_eq_true rfl, Nat.le_of_ble_eq_true rfl⟩ (k_rec X hW 13 0 Nat.zero_lt_one rfl rfl) hW hl.1 rfl (Nat.le_of_ble_eq_true rfl) dX5_found_106 (Nat.zero_le _) (Nat.zero_le _) (fun H locs hW hS => ?_)
                  refine lb_if_eq (tgt := 128) hx hb dX5_found_109 (by decide) (fun c_29 => ?_) (fun c_29 => ?_)
                  · skip
                    refine lv_aload_n hx hb dX5_found_128 rfl (lv_at hl 4 rfl) ?_
                    refine w_get X hW 13 0 Nat.zero_lt_one rfl rfl inG5 5 (by decide) g503 rfl dX5_found_129 ?_
                    refine lv_iconst (v := 1) hx hb dX5_found_132 (by decide) ?_
                    refine lv_iadd hx hb dX5_found_133 ?_
                    refine lv_istore (lv' := [(8, .int ((I4 13 0 5) + 1)), (7, .int (nI b)), (6, .int n), (5, .int (mCost I4 J4 (J4 37 0 i2) i2 a)), (4, .int (nI a)), (0, .ref (ad 13 0)), (1, .int (nI i2)), (2, .int i), (3, .int w)]) hx hb dX5_found_134 hl (by decide) rfl (fun ls hl => ?_)
                    refine lv_iload hx hb dX5_found_136 (lv_at hl 2 rfl) ?_
                    refine lv_iload hx hb dX5_found_138 (lv_at hl 0 rfl) ?_
                    refine lv_aload_n hx hb dX5_found_140 rfl (lv_at hl 5 rfl) ?_
                    refine w_get X hW 13 0 Nat.zero_lt_one rfl rfl inG5 5 (by decide) g503 rfl dX5_found_141 ?_
                    refine lv_icmp_gt (tgt := 172) hx hb dX5_found_144 (by decide) (fun c_30 => ?_) (fun c_30 => ?_)
                    · skip
                      refine lv_iconst (v := 0) hx hb dX5_found_172 (by decide) ?_
                      refine lv_iadd hx hb dX5_found_173 ?_
                      refine lv_istore (lv' := [(6, .int (n + 0)), (8, .int ((I4 13 0 5) + 1)), (7, .int (nI b)), (5, .int (mCost I4 J4 (J4 37 0 i2) i2 a)), (4, .int (nI a)), (0, .ref (ad 13 0)), (1, .int (nI i2)), (2, .int i), (3, .int w)]) hx hb dX5_found_174 hl (by decide) rfl (fun ls hl => ?_)
                      refine lv_iinc (v := nI (b + 1)) (lv' := [(7, .int (nI (b + 1))), (6, .int (n + 0)), (8, .int ((I4 13 0 5) + 1)), (5, .int (mCost I4 J4 (J4 37 0 i2) i2 a)), (4, .int (nI a)), (0, .ref (ad 13 0)), (1, .int (nI i2)), (2, .int i), (3, .int w)]) hx hb dX5_found_176 hl (k := 2) rfl (nI_1 b) (by decide) rfl (fun ls hl => ?_)
                      refine lv_goto (tgt := 93) hx hb dX5_found_179 (by decide) ?_
                      exact ih93 (b + 1) (n + 0) (by omega) (by first | exact hz93 | (rw [← hz93]; simp [kLoop, mF_b1, mF_c, mFoF, c_1, hk2, c_3, c_7, c_23, c_29, c_30]; done) | (simp [← hz93, kLoop, mF_b1, mF_c, mFoF, c_1, hk2, c_3, c_7, c_23, c_29, c_30]; done) | (rw [← hz93]; simp only [kLoop, mF_b1, mF_c, mFoF, c_1, hk2, c_3, c_7, c_23, c_29, c_30, eq_self, if_true, if_false, Bool.false_eq_true, decide_true, decide_false, Bool.not_true, Bool.not_false, Bool.false_or, Bool.true_or, Bool.and_true, Bool.true_and, Bool.false_and, Bool.and_false, Bool.or_true, Bool.or_false]; done)) _ _ hW hS ls (lv_sub hl [0, 1, 3, 4, 5, 6, 7, 8] rfl)
                    · skip
                      refine lv_iload hx hb dX5_found_147 (lv_at hl 0 rfl) ?_
                      refine lv_iload hx hb dX5_found_149 (lv_at hl 3 rfl) ?_
                      refine lv_icmp_lt (tgt := 168) hx hb dX5_found_151 (by decide) (fun c_31 => ?_) (fun c_31 => ?_)
                      · skip
                        refine lv_iconst (v := 1) hx hb dX5_found_168 (by decide) ?_
                        refine lv_goto (tgt := 173) hx hb dX5_found_169 (by decide) ?_
                        refine lv_iadd hx hb dX5_found_173 ?_
                        refine lv_istore (lv' := [(6, .int (n + 1)), (8, .int ((I4 13 0 5) + 1)), (7, .int (nI b)), (5, .int (mCost I4 J4 (J4 37 0 i2) i2 a)), (4, .int (nI a)), (0, .ref (ad 13 0)), (1, .int (nI i2)), (2, .int i), (3, .int w)]) hx hb dX5_found_174 hl (by decide) rfl (fun ls hl => ?_)
                        refine lv_iinc (v := nI (b + 1)) (lv' := [(7, .int (nI (b + 1))), (6, .int (n + 1)), (8, .int ((I4 13 0 5) + 1)), (5, .int (mCost I4 J4 (J4 37 0 i2) i2 a)), (4, .int (nI a)), (0, .ref (ad 13 0)), (1, .int (nI i2)), (2, .int i), (3, .int w)]) hx hb dX5_found_176 hl (k := 2) rfl (nI_1 b) (by decide) rfl (fun ls hl => ?_)
                        refine lv_goto (tgt := 93) hx hb dX5_found_179 (by decide) ?_
                        exact ih93 (b + 1) (n + 1) (by omega) (by first | exact hz93 | (rw [← hz93]; simp [kLoop, mF_b1, mF_c, mFoF, c_1, hk2, c_3, c_7, c_23, c_29, c_30, c_31]; done) | (simp [← hz93, kLoop, mF_b1, mF_c, mFoF, c_1, hk2, c_3, c_7, c_23, c_29, c_30, c_31]; done) | (rw [← hz93]; simp only [kLoop, mF_b1, mF_c, mFoF, c_1, hk2, c_3, c_7, c_23, c_29, c_30, c_31, eq_self, if_true, if_false, Bool.false_eq_true, decide_true, decide_false, Bool.not_true, Bool.not_false, Bool.false_or, Bool.true_or, Bool.and_true, Bool.true_and, Bool.false_and, Bool.and_false, Bool.or_true, Bool.or_false]; done)) _ _ hW hS ls (lv_sub hl [0, 1, 3, 4, 5, 6, 7, 8] rfl)
                      · skip
                        refine lv_iload hx hb dX5_found_154 (lv_at hl 0 rfl) ?_
                        refine lv_iload hx hb dX5_found_156 (lv_at hl 3 rfl) ?_
                        refine lv_icmp_ne (tgt := 172) hx hb dX5_found_158 (by decide) (fun c_32 => ?_) (fun c_32 => ?_)
                        · skip
                          refine lv_iconst (v := 0) hx hb dX5_found_172 (by decide) ?_
                          refine lv_iadd hx hb dX5_found_173 ?_
                          refine lv_istore (lv' := [(6, .int (n + 0)), (8, .int ((I4 13 0 5) + 1)), (7, .int (nI b)), (5, .int (mCost I4 J4 (J4 37 0 i2) i2 a)), (4, .int (nI a)), (0, .ref (ad 13 0)), (1, .int (nI i2)), (2, .int i), (3, .int w)]) hx hb dX5_found_174 hl (by decide) rfl (fun ls hl => ?_)
                          refine lv_iinc (v := nI (b + 1)) (lv' := [(7, .int (nI (b + 1))), (6, .int (n + 0)), (8, .int ((I4 13 0 5) + 1)), (5, .int (mCost I4 J4 (J4 37 0 i2) i2 a)), (4, .int (nI a)), (0, .ref (ad 13 0)), (1, .int (nI i2)), (2, .int i), (3, .int w)]) hx hb dX5_found_176 hl (k := 2) rfl (nI_1 b) (by decide) rfl (fun ls hl => ?_)
                          refine lv_goto (tgt := 93) hx hb dX5_found_179 (by decide) ?_
                          exact ih93 (b + 1) (n + 0) (by omega) (by first | exact hz93 | (rw [← hz93]; simp [kLoop, mF_b1, mF_c, mFoF, c_1, hk2, c_3, c_7, c_23, c_29, c_30, c_31, c_32]; done) | (simp [← hz93, kLoop, mF_b1, mF_c, mFoF, c_1, hk2, c_3, c_7, c_23, c_29, c_30, c_31, c_32]; done) | (rw [← hz93]; simp only [kLoop, mF_b1, mF_c, mFoF, c_1, hk2, c_3, c_7, c_23, c_29, c_30, c_31, c_32, eq_self, if_true, if_false, Bool.false_eq_true, decide_true, decide_false, Bool.not_true, Bool.not_false, Bool.false_or, Bool.true_or, Bool.and_true, Bool.true_and, Bool.false_and, Bool.and_false, Bool.or_true, Bool.or_false]; done)) _ _ hW hS ls (lv_sub hl [0, 1, 3, 4, 5, 6, 7, 8] rfl)
                        · skip
                          refine lv_iload hx hb dX5_found_161 (lv_at hl 1 rfl) ?_
                          refine lv_iload hx hb dX5_found_163 (lv_at hl 4 rfl) ?_
                          refine lv_icmp_ge (tgt := 172) hx hb dX5_found_165 (by decide) (fun c_33 => ?_) (fun c_33 => ?_)
                          · skip
                            refine lv_iconst (v := 0) hx hb dX5_found_172 (by decide) ?_
                            refine lv_iadd hx hb dX5_found_173 ?_
                            refine lv_istore (lv' := [(6, .int (n + 0)), (8, .int ((I4 13 0 5) + 1)), (7, .int (nI b)), (5, .int (mCost I4 J4 (J4 37 0 i2) i2 a)), (4, .int (nI a)), (0, .ref (ad 13 0)), (1, .int (nI i2)), (2, .int i), (3, .int w)]) hx hb dX5_found_174 hl (by decide) rfl (fun ls hl => ?_)
                            refine lv_iinc (v := nI (b + 1)) (lv' := [(7, .int (nI (b + 1))), (6, .int (n + 0)), (8, .int ((I4 13 0 5) + 1)), (5, .int (mCost I4 J4 (J4 37 0 i2) i2 a)), (4, .int (nI a)), (0, .ref (ad 13 0)), (1, .int (nI i2)), (2, .int i), (3, .int w)]) hx hb dX5_found_176 hl (k := 2) rfl (nI_1 b) (by decide) rfl (fun ls hl => ?_)
                            refine lv_goto (tgt := 93) hx hb dX5_found_179 (by decide) ?_
                            exact ih93 (b + 1) (n + 0) (by omega) (by first | exact hz93 | (rw [← hz93]; simp [kLoop, mF_b1, mF_c, mFoF, c_1, hk2, c_3, c_7, c_23, c_29, c_30, c_31, c_32, c_33]; done) | (simp [← hz93, kLoop, mF_b1, mF_c, mFoF, c_1, hk2, c_3, c_7, c_23, c_29, c_30, c_31, c_32, c_33]; done) | (rw [← hz93]; simp only [kLoop, mF_b1, mF_c, mFoF, c_1, hk2, c_3, c_7, c_23, c_29, c_30, c_31, c_32, c_33, eq_self, if_true, if_false, Bool.false_eq_true, decide_true, decide_false, Bool.not_true, Bool.not_false, Bool.false_or, Bool.true_or, Bool.and_true, Bool.true_and, Bool.false_and, Bool.and_false, Bool.or_true, Bool.or_false]; done)) _ _ hW hS ls (lv_sub hl [0, 1, 3, 4, 5, 6, 7, 8] rfl)
                          · skip
                            refine lv_iconst (v := 1) hx hb dX5_found_168 (by decide) ?_
                            refine lv_goto (tgt := 173) hx hb dX5_found_169 (by decide) ?_
                            refine lv_iadd hx hb dX5_found_173 ?_
                            refine lv_istore (lv' := [(6, .int (n + 1)), (8, .int ((I4 13 0 5) + 1)), (7, .int (nI b)), (5, .int (mCost I4 J4 (J4 37 0 i2) i2 a)), (4, .int (nI a)), (0, .ref (ad 13 0)), (1, .int (nI i2)), (2, .int i), (3, .int w)]) hx hb dX5_found_174 hl (by decide) rfl (fun ls hl => ?_)
                            refine lv_iinc (v := nI (b + 1)) (lv' := [(7, .int (nI (b + 1))), (6, .int (n + 1)), (8, .int ((I4 13 0 5) + 1)), (5, .int (mCost I4 J4 (J4 37 0 i2) i2 a)), (4, .int (nI a)), (0, .ref (ad 13 0)), (1, .int (nI i2)), (2, .int i), (3, .int w)]) hx hb dX5_found_176 hl (k := 2) rfl (nI_1 b) (by decide) rfl (fun ls hl => ?_)
                            refine lv_goto (tgt := 93) hx hb dX5_found_179 (by decide) ?_
                            exact ih93 (b + 1) (n + 1) (by omega) (by first | exact hz93 | (rw [← hz93]; simp [kLoop, mF_b1, mF_c, mFoF, c_1, hk2, c_3, c_7, c_23, c_29, c_30, c_31, c_32, c_33]; done) | (simp [← hz93, kLoop, mF_b1, mF_c, mFoF, c_1, hk2, c_3, c_7, c_23, c_29, c_30, c_31, c_32, c_33]; done) | (rw [← hz93]; simp only [kLoop, mF_b1, mF_c, mFoF, c_1, hk2, c_3, c_7, c_23, c_29, c_30, c_31, c_32, c_33, eq_self, if_true, if_false, Bool.false_eq_true, decide_true, decide_false, Bool.not_true, Bool.not_false, Bool.false_or, Bool.true_or, Bool.and_true, Bool.true_and, Bool.false_and, Bool.and_false, Bool.or_true, Bool.or_false]; done)) _ _ hW hS ls (lv_sub hl [0, 1, 3, 4, 5, 6, 7, 8] rfl)
                  · skip
                    refine lv_aload_n hx hb dX5_found_112 rfl (lv_at hl 4 rfl) ?_
                    refine lv_aload_n hx hb dX5_found_113 rfl (lv_at hl 4 rfl) ?_
                    refine w_get X hW 13 0 Nat.zero_lt_one rfl rfl inG5 17 (by decide) g515 rfl dX5_found_114 ?_
                    refine lv_iload_n hx hb dX5_found_117 rfl (lv_at hl 5 rfl) ?_
                    refine w_laldN (i := i2) X hW 37 0 Nat.zero_lt_one rfl (by omega) dX5_found_118 ?_
                    refine lv_iload_n hx hb dX5_found_119 rfl (lv_at hl 5 rfl) ?_
                    refine lv_iload hx hb dX5_found_120 (lv_at hl 0 rfl) ?_
                    refine w_cV1 X hS (m_X5_costWith l G ad nA nK mA mK E I4 J4 (J4 37 0 i2) i2 b hs4 (by first | assumption | omega) (by first | assumption | omega)) rfl rfl g732 g4 g729 g731 p44 hd_X5_costWith ⟨Nat.le_of_ble_eq_true rfl, Nat.le_of_ble_eq_true rfl⟩ (k_rec X hW 13 0 Nat.zero_lt_one rfl rfl) hW hl.1 rfl (Nat.le_of_ble_eq_true rfl) dX5_found_122 (Nat.zero_le _) (Nat.zero_le _) (fun H locs hW hS => ?_)
                    refine lv_goto (tgt := 134) hx hb dX5_found_125 (by decide) ?_
                    refine lv_istore (lv' := [(8, .int (mCost I4 J4 (J4 37 0 i2) i2 b)), (7, .int (nI b)), (6, .int n), (5, .int (mCost I4 J4 (J4 37 0 i2) i2 a)), (4, .int (nI a)), (0, .ref (ad 13 0)), (1, .int (nI i2)), (2, .int i), (3, .int w)]) hx hb dX5_found_134 hl (by decide) rfl (fun ls hl => ?_)
                    refine lv_iload hx hb dX5_found_136 (lv_at hl 2 rfl) ?_
                    refine lv_iload hx hb dX5_found_138 (lv_at hl 0 rfl) ?_
                    refine lv_aload_n hx hb dX5_found_140 rfl (lv_at hl 5 rfl) ?_
                    refine w_get X hW 13 0 Nat.zero_lt_one rfl rfl inG5 5 (by decide) g503 rfl dX5_found_141 ?_
                    refine lv_icmp_gt (tgt := 172) hx hb dX5_found_144 (by decide) (fun c_34 => ?_) (fun c_34 => ?_)
                    · skip
                      refine lv_iconst (v := 0) hx hb dX5_found_172 (by decide) ?_
                      refine lv_iadd hx hb dX5_found_173 ?_
                      refine lv_istore (lv' := [(6, .int (n + 0)), (8, .int (mCost I4 J4 (J4 37 0 i2) i2 b)), (7, .int (nI b)), (5, .int (mCost I4 J4 (J4 37 0 i2) i2 a)), (4, .int (nI a)), (0, .ref (ad 13 0)), (1, .int (nI i2)), (2, .int i), (3, .int w)]) hx hb dX5_found_174 hl (by decide) rfl (fun ls hl => ?_)
                      refine lv_iinc (v := nI (b + 1)) (lv' := [(7, .int (nI (b + 1))), (6, .int (n + 0)), (8, .int (mCost I4 J4 (J4 37 0 i2) i2 b)), (5, .int (mCost I4 J4 (J4 37 0 i2) i2 a)), (4, .int (nI a)), (0, .ref (ad 13 0)), (1, .int (nI i2)), (2, .int i), (3, .int w)]) hx hb dX5_found_176 hl (k := 2) rfl (nI_1 b) (by decide) rfl (fun ls hl => ?_)
                      refine lv_goto (tgt := 93) hx hb dX5_found_179 (by decide) ?_
                      exact ih93 (b + 1) (n + 0) (by omega) (by first | exact hz93 | (rw [← hz93]; simp [kLoop, mF_b1, mF_c, mFoF, c_1, hk2, c_3, c_7, c_23, c_29, c_34]; done) | (simp [← hz93, kLoop, mF_b1, mF_c, mFoF, c_1, hk2, c_3, c_7, c_23, c_29, c_34]; done) | (rw [← hz93]; simp only [kLoop, mF_b1, mF_c, mFoF, c_1, hk2, c_3, c_7, c_23, c_29, c_34, eq_self, if_true, if_false, Bool.false_eq_true, decide_true, decide_false, Bool.not_true, Bool.not_false, Bool.false_or, Bool.true_or, Bool.and_true, Bool.true_and, Bool.false_and, Bool.and_false, Bool.or_true, Bool.or_false]; done)) _ _ hW hS ls (lv_sub hl [0, 1, 3, 4, 5, 6, 7, 8] rfl)
                    · skip
                      refine lv_iload hx hb dX5_found_147 (lv_at hl 0 rfl) ?_
                      refine lv_iload hx hb dX5_found_149 (lv_at hl 3 rfl) ?_
                      refine lv_icmp_lt (tgt := 168) hx hb dX5_found_151 (by decide) (fun c_35 => ?_) (fun c_35 => ?_)
                      · skip
                        refine lv_iconst (v := 1) hx hb dX5_found_168 (by decide) ?_
                        refine lv_goto (tgt := 173) hx hb dX5_found_169 (by decide) ?_
                        refine lv_iadd hx hb dX5_found_173 ?_
                        refine lv_istore (lv' := [(6, .int (n + 1)), (8, .int (mCost I4 J4 (J4 37 0 i2) i2 b)), (7, .int (nI b)), (5, .int (mCost I4 J4 (J4 37 0 i2) i2 a)), (4, .int (nI a)), (0, .ref (ad 13 0)), (1, .int (nI i2)), (2, .int i), (3, .int w)]) hx hb dX5_found_174 hl (by decide) rfl (fun ls hl => ?_)
                        refine lv_iinc (v := nI (b + 1)) (lv' := [(7, .int (nI (b + 1))), (6, .int (n + 1)), (8, .int (mCost I4 J4 (J4 37 0 i2) i2 b)), (5, .int (mCost I4 J4 (J4 37 0 i2) i2 a)), (4, .int (nI a)), (0, .ref (ad 13 0)), (1, .int (nI i2)), (2, .int i), (3, .int w)]) hx hb dX5_found_176 hl (k := 2) rfl (nI_1 b) (by decide) rfl (fun ls hl => ?_)
                        refine lv_goto (tgt := 93) hx hb dX5_found_179 (by decide) ?_
                        exact ih93 (b + 1) (n + 1) (by omega) (by first | exact hz93 | (rw [← hz93]; simp [kLoop, mF_b1, mF_c, mFoF, c_1, hk2, c_3, c_7, c_23, c_29, c_34, c_35]; done) | (simp [← hz93, kLoop, mF_b1, mF_c, mFoF, c_1, hk2, c_3, c_7, c_23, c_29, c_34, c_35]; done) | (rw [← hz93]; simp only [kLoop, mF_b1, mF_c, mFoF, c_1, hk2, c_3, c_7, c_23, c_29, c_34, c_35, eq_self, if_true, if_false, Bool.false_eq_true, decide_true, decide_false, Bool.not_true, Bool.not_false, Bool.false_or, Bool.true_or, Bool.and_true, Bool.true_and, Bool.false_and, Bool.and_false, Bool.or_true, Bool.or_false]; done)) _ _ hW hS ls (lv_sub hl [0, 1, 3, 4, 5, 6, 7, 8] rfl)
                      · skip
                        refine lv_iload hx hb dX5_found_154 (lv_at hl 0 rfl) ?_
                        refine lv_iload hx hb dX5_found_156 (lv_at hl 3 rfl) ?_
                        refine lv_icmp_ne (tgt := 172) hx hb dX5_found_158 (by decide) (fun c_36 => ?_) (fun c_36 => ?_)
                        · skip
                          refine lv_iconst (v := 0) hx hb dX5_found_172 (by decide) ?_
                          refine lv_iadd hx hb dX5_found_173 ?_
                          refine lv_istore (lv' := [(6, .int (n + 0)), (8, .int (mCost I4 J4 (J4 37 0 i2) i2 b)), (7, .int (nI b)), (5, .int (mCost I4 J4 (J4 37 0 i2) i2 a)), (4, .int (nI a)), (0, .ref (ad 13 0)), (1, .int (nI i2)), (2, .int i), (3, .int w)]) hx hb dX5_found_174 hl (by decide) rfl (fun ls hl => ?_)
                          refine lv_iinc (v := nI (b + 1)) (lv' := [(7, .int (nI (b + 1))), (6, .int (n + 0)), (8, .int (mCost I4 J4 (J4 37 0 i2) i2 b)), (5, .int (mCost I4 J4 (J4 37 0 i2) i2 a)), (4, .int (nI a)), (0, .ref (ad 13 0)), (1, .int (nI i2)), (2, .int i), (3, .int w)]) hx hb dX5_found_176 hl (k := 2) rfl (nI_1 b) (by decide) rfl (fun ls hl => ?_)
                          refine lv_goto (tgt := 93) hx hb dX5_found_179 (by decide) ?_
                          exact ih93 (b + 1) (n + 0) (by omega) (by first | exact hz93 | (rw [← hz93]; simp [kLoop, mF_b1, mF_c, mFoF, c_1, hk2, c_3, c_7, c_23, c_29, c_34, c_35, c_36]; done) | (simp [← hz93, kLoop, mF_b1, mF_c, mFoF, c_1, hk2, c_3, c_7, c_23, c_29, c_34, c_35, c_36]; done) | (rw [← hz93]; simp only [kLoop, mF_b1, mF_c, mFoF, c_1, hk2, c_3, c_7, c_23, c_29, c_34, c_35, c_36, eq_self, if_true, if_false, Bool.false_eq_true, decide_true, decide_false, Bool.not_true, Bool.not_false, Bool.false_or, Bool.true_or, Bool.and_true, Bool.true_and, Bool.false_and, Bool.and_false, Bool.or_true, Bool.or_false]; done)) _ _ hW hS ls (lv_sub hl [0, 1, 3, 4, 5, 6, 7, 8] rfl)
                        · skip
                          refine lv_iload hx hb dX5_found_161 (lv_at hl 1 rfl) ?_
                          refine lv_iload hx hb dX5_found_163 (lv_at hl 4 rfl) ?_
                          refine lv_icmp_ge (tgt := 172) hx hb dX5_found_165 (by decide) (fun c_37 => ?_) (fun c_37 => ?_)
                          · skip
                            refine lv_iconst (v := 0) hx hb dX5_found_172 (by decide) ?_
                            refine lv_iadd hx hb dX5_found_173 ?_
                            refine lv_istore (lv' := [(6, .int (n + 0)), (8, .int (mCost I4 J4 (J4 37 0 i2) i2 b)), (7, .int (nI b)), (5, .int (mCost I4 J4 (J4 37 0 i2) i2 a)), (4, .int (nI a)), (0, .ref (ad 13 0)), (1, .int (nI i2)), (2, .int i), (3, .int w)]) hx hb dX5_found_174 hl (by decide) rfl (fun ls hl => ?_)
                            refine lv_iinc (v := nI (b + 1)) (lv' := [(7, .int (nI (b + 1))), (6, .int (n + 0)), (8, .int (mCost I4 J4 (J4 37 0 i2) i2 b)), (5, .int (mCost I4 J4 (J4 37 0 i2) i2 a)), (4, .int (nI a)), (0, .ref (ad 13 0)), (1, .int (nI i2)), (2, .int i), (3, .int w)]) hx hb dX5_found_176 hl (k := 2) rfl (nI_1 b) (by decide) rfl (fun ls hl => ?_)
                            refine lv_goto (tgt := 93) hx hb dX5_found_179 (by decide) ?_
                            exact ih93 (b + 1) (n + 0) (by omega) (by first | exact hz93 | (rw [← hz93]; simp [kLoop, mF_b1, mF_c, mFoF, c_1, hk2, c_3, c_7, c_23, c_29, c_34, c_35, c_36, c_37]; done) | (simp [← hz93, kLoop, mF_b1, mF_c, mFoF, c_1, hk2, c_3, c_7, c_23, c_29, c_34, c_35, c_36, c_37]; done) | (rw [← hz93]; simp only [kLoop, mF_b1, mF_c, mFoF, c_1, hk2, c_3, c_7, c_23, c_29, c_34, c_35, c_36, c_37, eq_self, if_true, if_false, Bool.false_eq_true, decide_true, decide_false, Bool.not_true, Bool.not_false, Bool.false_or, Bool.true_or, Bool.and_true, Bool.true_and, Bool.false_and, Bool.and_false, Bool.or_true, Bool.or_false]; done)) _ _ hW hS ls (lv_sub hl [0, 1, 3, 4, 5, 6, 7, 8] rfl)
                          · skip
                            refine lv_iconst (v := 1) hx hb dX5_found_168 (by decide) ?_
                            refine lv_goto (tgt := 173) hx hb dX5_found_169 (by decide) ?_
                            refine lv_iadd hx hb dX5_found_173 ?_
                            refine lv_istore (lv' := [(6, .int (n + 1)), (8, .int (mCost I4 J4 (J4 37 0 i2) i2 b)), (7, .int (nI b)), (5, .int (mCost I4 J4 (J4 37 0 i2) i2 a)), (4, .int (nI a)), (0, .ref (ad 13 0)), (1, .int (nI i2)), (2, .int i), (3, .int w)]) hx hb dX5_found_174 hl (by decide) rfl (fun ls hl => ?_)
                            refine lv_iinc (v := nI (b + 1)) (lv' := [(7, .int (nI (b + 1))), (6, .int (n + 1)), (8, .int (mCost I4 J4 (J4 37 0 i2) i2 b)), (5, .int (mCost I4 J4 (J4 37 0 i2) i2 a)), (4, .int (nI a)), (0, .ref (ad 13 0)), (1, .int (nI i2)), (2, .int i), (3, .int w)]) hx hb dX5_found_176 hl (k := 2) rfl (nI_1 b) (by decide) rfl (fun ls hl => ?_)
                            refine lv_goto (tgt := 93) hx hb dX5_found_179 (by decide) ?_
                            exact ih93 (b + 1) (n + 1) (by omega) (by first | exact hz93 | (rw [← hz93]; simp [kLoop, mF_b1, mF_c, mFoF, c_1, hk2, c_3, c_7, c_23, c_29, c_34, c_35, c_36, c_37]; done) | (simp [← hz93, kLoop, mF_b1, mF_c, mFoF, c_1, hk2, c_3, c_7, c_23, c_29, c_34, c_35, c_36, c_37]; done) | (rw [← hz93]; simp only [kLoop, mF_b1, mF_c, mFoF, c_1, hk2, c_3, c_7, c_23, c_29, c_34, c_35, c_36, c_37, eq_self, if_true, if_false, Bool.false_eq_true, decide_true, decide_false, Bool.not_true, Bool.not_false, Bool.false_or, Bool.true_or, Bool.and_true, Bool.true_and, Bool.false_and, Bool.and_false, Bool.or_true, Bool.or_false]; done)) _ _ hW hS ls (lv_sub hl [0, 1, 3, 4, 5, 6, 7, 8] rfl)
              exact loop93 mA 0 0 (by omega) rfl _ _ hW hS ls (lv_sub hl [0, 1, 2, 3, 4, 5, 6, 7] rfl)
      exact loop35 mA 0 (by omega) rfl _ _ hW hS ls (lv_sub hl [0, 1, 2, 3, 4] rfl)
    · skip
      refine lv_sipush (v := (-1002)) hx hb dX5_found_24 (by decide) ?_
      exact w_iret X hr hlk hS (by first | rfl | (simp [mcFound, c_1, hk2, c_3]; done) | (simp [mcFound, c_1, hk2, c_3]; rfl)) (hW.to (by first | rfl | (simp [mcFound, c_1, hk2, c_3]; done)) (by first | rfl | (simp [mcFound, c_1, hk2, c_3]; done))) dX5_found_27
  · skip
    have hk38 : kAns mK k = none := mIs_none (by omega) c_1
    refine lv_sipush (v := (-1001)) hx hb dX5_found_8 (by decide) ?_
    exact w_iret X hr hlk hS (by first | rfl | (simp [mcFound, c_1, hk38]; done) | (simp [mcFound, c_1, hk38]; rfl)) (hW.to (by first | rfl | (simp [mcFound, c_1, hk38]; done)) (by first | rfl | (simp [mcFound, c_1, hk38]; done))) dX5_found_11
