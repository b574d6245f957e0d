set_option maxHeartbeats 4000000 in
set_option maxRecDepth 100000 in
theorem m_X5_leastOf (l : Launch) (G : k_G) (PW : Heap → Prop) (x : Int32) (k : Nat) (hk : k < 32) (h0 : ∀ j, j < k → bt x j = false) (h1 : bt x k = true) : k_Met l yX5_leastOf cX5_leastOf 2 (some FieldType.int) { frames := 0, cells := 0, slots := 0, locals := 0 } G [.int x] (PW) (some (.int (nI (k)))) (PW) 0 0 := by
  refine k_body (by decide) (Nat.le_of_ble_eq_true rfl) ?_
  intro p e s m below meth c ls X hr hlk hnm hW hS hl
  have hx := X.1.1
  have hb := X.1.2.1
  have hG := X.1.2.2.2.2
  have hl : lv_has ls 2 [(0, .int x)] := hl
  refine lv_iconst (v := 0) hx hb dX5_leastOf_0 (by decide) ?_
  refine lv_istore_n (lv' := [(1, .int 0), (0, .int x)]) hx hb dX5_leastOf_1 rfl hl (by decide) rfl (fun ls hl => ?_)
  have loop2 : ∀ (d j : Nat), j + d = k → ∀ (H : Heap) (locs : List Loc), PW H → va_S (k_A G) s.heap H locs → ∀ ls : Array Slot, lv_has ls 2 [(1, .int (nI j)), (0, .int x)] → W p l e { frames := 0, cells := 0, slots := 0, locals := 0 } s m ([.int x] : List Value).toArray below meth c H locs 0 0 (MQ below (k_Q G (some (.int (nI (k)))) (PW)) ([.int x] : List Value).toArray s 0 0 (k_A G)) (F0 m 2 ls []) := by
    intro d
    induction d with
    | zero =>
      intro j hi2  H locs hW hS ls hl
      refine lv_iload_n hx hb dX5_leastOf_2 rfl (lv_at hl 1 rfl) ?_
      refine lv_iload_n hx hb dX5_leastOf_3 rfl (lv_at hl 0 rfl) ?_
      refine lv_ishr hx hb dX5_leastOf_4 ?_
      refine lv_iconst (v := 1) hx hb dX5_leastOf_5 (by decide) ?_
      refine lv_iand hx hb dX5_leastOf_6 ?_
      refine lv_if_ne (tgt := 16) hx hb dX5_leastOf_7 (by decide) (fun c_1 => ?_) (fun c_1 => absurd c_1 (by rw [show j = k by omega, b_at0 x hk, h1]; decide))
      refine lv_iload_n hx hb dX5_leastOf_16 rfl (lv_at hl 0 rfl) ?_
      exact w_iret X hr hlk hS (by rw [show j = k by omega]) hW dX5_leastOf_17
    | succ d ih =>
      intro j hi2  H locs hW hS ls hl
      have hlt2 : j < k := by omega
      have ih2 := ih
      refine lv_iload_n hx hb dX5_leastOf_2 rfl (lv_at hl 1 rfl) ?_
      refine lv_iload_n hx hb dX5_leastOf_3 rfl (lv_at hl 0 rfl) ?_
      refine lv_ishr hx hb dX5_leastOf_4 ?_
      refine lv_iconst (v := 1) hx hb dX5_leastOf_5 (by decide) ?_
      refine lv_iand hx hb dX5_leastOf_6 ?_
      refine lv_if_ne (tgt := 16) hx hb dX5_leastOf_7 (by decide) (fun c_2 => absurd c_2 (fun q => q ((b_at0 x (by omega)).mpr (h0 j (by omega))))) (fun c_2 => ?_)
      refine lv_iinc (v := nI (j + 1)) (lv' := [(1, .int (nI (j + 1))), (0, .int x)]) hx hb dX5_leastOf_10 hl (k := 0) rfl (nI_1 j) (by decide) rfl (fun ls hl => ?_)
      refine lv_goto (tgt := 2) hx hb dX5_leastOf_13 (by decide) ?_
      exact ih2 (j + 1) (by omega) _ _ hW hS ls (lv_sub hl [0, 1] rfl)
  exact loop2 k 0 (by omega) _ _ hW hS ls (lv_sub hl [0, 1] rfl)
theorem m_X5_leastOf_x (l : Launch) (G : k_G) (PW : Heap → Prop) (x : Int32) (hx : ¬ x = 0) : k_Met l yX5_leastOf cX5_leastOf 2 (some FieldType.int) { frames := 0, cells := 0, slots := 0, locals := 0 } G [.int x] PW (some (.int (mLeast x))) PW 0 0 := by
  obtain ⟨k, hk, h0, h1⟩ := b_least hx
  rw [mLeast_eq hk h0 h1]
  exact m_X5_leastOf l G PW x k hk h0 h1
set_option maxHeartbeats 4000000 in
set_option maxRecDepth 100000 in
theorem m_X5_isFit (l : Launch) (G : k_G) (ad : Nat → Nat → Nat) (nA nK : Nat) (mA mK : Nat) (E : Nat → Nat) (I : k_I) (J : k_J) (q : Nat) (a : Nat) (hs : m_S mA mK E I) (hq : q < mK) (ha : a < mA) : k_Met l yX5_isFit cX5_isFit 7 (some FieldType.boolean) { frames := 0, cells := 0, slots := 0, locals := 0 } G [.ref (ad 13 0), .int (nI q), .int (nI a)] (Wd G ad nA nK I J) (some (.int (k_b (mFit I q a)))) (Wd G ad nA nK I J) 0 0 := by
  refine k_body (by decide) (Nat.le_of_ble_eq_true rfl) ?_
  intro p e s m below meth c ls X hr hlk hnm hW hS hl
  have hx := X.1.1
  have hb := X.1.2.1
  have hG := X.1.2.2.2.2
  have hA24 := hs.2.2.1
  have hK30 := hs.2.2.2.1
  have hl : lv_has ls 7 [(0, .ref (ad 13 0)), (1, .int (nI q)), (2, .int (nI a))] := hl
  refine lv_aload_n hx hb dX5_isFit_0 rfl (lv_at hl 0 rfl) ?_
  refine w_get X hW 13 0 Nat.zero_lt_one rfl rfl inG5 8 (by decide) g506 rfl dX5_isFit_1 ?_
  refine lv_iload_n hx hb dX5_isFit_4 rfl (lv_at hl 2 rfl) ?_
  refine w_ialdN (i := a) X hW 28 0 Nat.zero_lt_one rfl (by omega) dX5_isFit_5 ?_
  refine lv_if_ge (tgt := 13) hx hb dX5_isFit_6 (by decide) (fun c_1 => ?_) (fun c_1 => ?_)
  · skip
    have c_1' : ¬ I 28 0 a < 0 := Int32.not_lt.mpr c_1
    refine lv_iconst (v := 0) hx hb dX5_isFit_13 (by decide) ?_
    refine lv_istore_n (lv' := [(3, .int 0), (0, .ref (ad 13 0)), (1, .int (nI q)), (2, .int (nI a))]) hx hb dX5_isFit_14 rfl hl (by decide) rfl (fun ls hl => ?_)
    refine lv_iconst (v := 0) hx hb dX5_isFit_15 (by decide) ?_
    refine lv_istore (lv' := [(4, .int 0), (3, .int 0), (0, .ref (ad 13 0)), (1, .int (nI q)), (2, .int (nI a))]) hx hb dX5_isFit_16 hl (by decide) rfl (fun ls hl => ?_)
    have loop18 : ∀ (d k : Nat) (r : Bool), k + d = 3 → (kLoop (mFit1 I q a) d k r = mFit I q a) → ∀ (H : Heap) (locs : List Loc), Wd G ad nA nK I J H → va_S (k_A G) s.heap H locs → ∀ ls : Array Slot, lv_has ls 7 [(4, .int (nI k)), (3, .int (k_b r)), (0, .ref (ad 13 0)), (1, .int (nI q)), (2, .int (nI a))] → W p l e { frames := 0, cells := 0, slots := 0, locals := 0 } s m ([.ref (ad 13 0), .int (nI q), .int (nI a)] : List Value).toArray below meth c H locs 0 0 (MQ below (k_Q G (some (.int (k_b (mFit I q a)))) (Wd G ad nA nK I J)) ([.ref (ad 13 0), .int (nI q), .int (nI a)] : List Value).toArray s 0 0 (k_A G)) (F0 m 18 ls []) := by
      intro d
      induction d with
      | zero =>
        intro k r hi18 hz18  H locs hW hS ls hl
        refine lv_iload hx hb dX5_isFit_18 (lv_at hl 0 rfl) ?_
        refine lv_iconst (v := 3) hx hb dX5_isFit_20 (by decide) ?_
        refine lv_icmp_ge (tgt := 87) hx hb dX5_isFit_21 (by decide) (fun _ => ?_) (fun c_2 => absurd (nI_le (a := 3) (b := k) (by omega) (by omega)) c_2)
        refine lv_iload_n hx hb dX5_isFit_87 rfl (lv_at hl 1 rfl) ?_
        exact w_zret X hr hlk hS (by first | exact hz18 | (rw [← hz18]; simp [kLoop, mFit1, c_1, c_1']; done) | (simp [← hz18, kLoop, mFit1, c_1, c_1']; done) | (rw [← hz18]; simp only [kLoop, mFit1, c_1, c_1', eq_self, if_true, if_false, Bool.false_eq_true, decide_true, decide_false, Bool.not_true, Bool.not_false, Bool.false_or, Bool.true_or, Bool.and_true, Bool.true_and, Bool.false_and, Bool.and_false, Bool.or_true, Bool.or_false]; done) | (simp [kLoop, mFit1, c_1, c_1']; done)) (k_b_n _) hW dX5_isFit_88
      | succ d ih =>
        intro k r hi18 hz18  H locs hW hS ls hl
        have hlt18 : k < 3 := by omega
        have ih18 := ih
        refine lv_iload hx hb dX5_isFit_18 (lv_at hl 0 rfl) ?_
        refine lv_iconst (v := 3) hx hb dX5_isFit_20 (by decide) ?_
        refine lv_icmp_ge (tgt := 87) hx hb dX5_isFit_21 (by decide) (fun c_3 => absurd c_3 (nI_ge (a := k) (b := 3) (by omega) (by omega))) (fun _ => ?_)
        refine lv_aload_n hx hb dX5_isFit_24 rfl (lv_at hl 2 rfl) ?_
        refine w_get X hW 13 0 Nat.zero_lt_one rfl rfl inG5 18 (by decide) g516 rfl dX5_isFit_25 ?_
        refine lv_iconst (v := 3) hx hb dX5_isFit_28 (by decide) ?_
        refine lv_iload_n hx hb dX5_isFit_29 rfl (lv_at hl 3 rfl) ?_
        refine lw_imulN (a := 3) (b := q) hx hb dX5_isFit_30 ?_
        refine lv_iload hx hb dX5_isFit_31 (lv_at hl 0 rfl) ?_
        refine lw_iaddN (a := 3 * q) (b := k) hx hb dX5_isFit_33 ?_
        refine w_ialdN (i := 3 * q + k) X hW 38 0 Nat.zero_lt_one rfl (by omega) dX5_isFit_34 ?_
        refine lv_istore (lv' := [(5, .int (I 38 0 (3 * q + k))), (4, .int (nI k)), (3, .int (k_b r)), (0, .ref (ad 13 0)), (1, .int (nI q)), (2, .int (nI a))]) hx hb dX5_isFit_35 hl (by decide) rfl (fun ls hl => ?_)
        refine lv_aload_n hx hb dX5_isFit_37 rfl (lv_at hl 3 rfl) ?_
        refine w_get X hW 13 0 Nat.zero_lt_one rfl rfl inG5 21 (by decide) g519 rfl dX5_isFit_38 ?_
        refine lv_iconst (v := 3) hx hb dX5_isFit_41 (by decide) ?_
        refine lv_iload_n hx hb dX5_isFit_42 rfl (lv_at hl 5 rfl) ?_
        refine lw_imulN (a := 3) (b := a) hx hb dX5_isFit_43 ?_
        refine lv_iload hx hb dX5_isFit_44 (lv_at hl 1 rfl) ?_
        refine lw_iaddN (a := 3 * a) (b := k) hx hb dX5_isFit_46 ?_
        refine w_ialdN (i := 3 * a + k) X hW 41 0 Nat.zero_lt_one rfl (by omega) dX5_isFit_47 ?_
        refine lv_istore (lv' := [(6, .int (I 41 0 (3 * a + k))), (5, .int (I 38 0 (3 * q + k))), (4, .int (nI k)), (3, .int (k_b r)), (0, .ref (ad 13 0)), (1, .int (nI q)), (2, .int (nI a))]) hx hb dX5_isFit_48 hl (by decide) rfl (fun ls hl => ?_)
        refine lv_iload_n hx hb dX5_isFit_50 rfl (lv_at hl 3 rfl) ?_
        refine lb_if_eq (tgt := 79) hx hb dX5_isFit_51 (by decide) (fun c_4 => ?_) (fun c_4 => ?_)
        · skip
          refine lv_iconst (v := 0) hx hb dX5_isFit_79 (by decide) ?_
          refine lv_istore_n (lv' := [(3, .int 0), (6, .int (I 41 0 (3 * a + k))), (5, .int (I 38 0 (3 * q + k))), (4, .int (nI k)), (0, .ref (ad 13 0)), (1, .int (nI q)), (2, .int (nI a))]) hx hb dX5_isFit_80 rfl hl (by decide) rfl (fun ls hl => ?_)
          refine lv_iinc (v := nI (k + 1)) (lv' := [(4, .int (nI (k + 1))), (3, .int 0), (6, .int (I 41 0 (3 * a + k))), (5, .int (I 38 0 (3 * q + k))), (0, .ref (ad 13 0)), (1, .int (nI q)), (2, .int (nI a))]) hx hb dX5_isFit_81 hl (k := 3) rfl (nI_1 k) (by decide) rfl (fun ls hl => ?_)
          refine lv_goto (tgt := 18) hx hb dX5_isFit_84 (by decide) ?_
          exact ih18 (k + 1) false (by omega) (by first | exact hz18 | (rw [← hz18]; simp [kLoop, mFit1, c_1, c_1', c_4]; done) | (simp [← hz18, kLoop, mFit1, c_1, c_1', c_4]; done) | (rw [← hz18]; simp only [kLoop, mFit1, c_1, c_1', c_4, eq_self, if_true, if_false, Bool.false_eq_true, decide_true, decide_false, Bool.not_true, Bool.not_false, Bool.false_or, Bool.true_or, Bool.and_true, Bool.true_and, Bool.false_and, Bool.and_false, Bool.or_true, Bool.or_false]; done)) _ _ hW hS ls (lv_sub hl [0, 1, 4, 5, 6] rfl)
        · skip
          refine lv_iload hx hb dX5_isFit_54 (lv_at hl 0 rfl) ?_
          refine lv_if_eq (tgt := 79) hx hb dX5_isFit_56 (by decide) (fun c_5 => ?_) (fun c_5 => ?_)
          · skip
            refine lv_iconst (v := 0) hx hb dX5_isFit_79 (by decide) ?_
            refine lv_istore_n (lv' := [(3, .int 0), (6, .int (I 41 0 (3 * a + k))), (5, .int (I 38 0 (3 * q + k))), (4, .int (nI k)), (0, .ref (ad 13 0)), (1, .int (nI q)), (2, .int (nI a))]) hx hb dX5_isFit_80 rfl hl (by decide) rfl (fun ls hl => ?_)
            refine lv_iinc (v := nI (k + 1)) (lv' := [(4, .int (nI (k + 1))), (3, .int 0), (6, .int (I 41 0 (3 * a + k))), (5, .int (I 38 0 (3 * q + k))), (0, .ref (ad 13 0)), (1, .int (nI q)), (2, .int (nI a))]) hx hb dX5_isFit_81 hl (k := 3) rfl (nI_1 k) (by decide) rfl (fun ls hl => ?_)
            refine lv_goto (tgt := 18) hx hb dX5_isFit_84 (by decide) ?_
            exact ih18 (k + 1) false (by omega) (by first | exact hz18 | (rw [← hz18]; simp [kLoop, mFit1, c_1, c_1', c_4, c_5]; done) | (simp [← hz18, kLoop, mFit1, c_1, c_1', c_4, c_5]; done) | (rw [← hz18]; simp only [kLoop, mFit1, c_1, c_1', c_4, c_5, eq_self, if_true, if_false, Bool.false_eq_true, decide_true, decide_false, Bool.not_true, Bool.not_false, Bool.false_or, Bool.true_or, Bool.and_true, Bool.true_and, Bool.false_and, Bool.and_false, Bool.or_true, Bool.or_false]; done)) _ _ hW hS ls (lv_sub hl [0, 1, 4, 5, 6] rfl)
          · skip
            refine lv_iload hx hb dX5_isFit_59 (lv_at hl 1 rfl) ?_
            refine lv_if_lt (tgt := 75) hx hb dX5_isFit_61 (by decide) (fun c_6 => ?_) (fun c_6 => ?_)
            · skip
              refine lv_iconst (v := 1) hx hb dX5_isFit_75 (by decide) ?_
              refine lv_goto (tgt := 80) hx hb dX5_isFit_76 (by decide) ?_
              refine lv_istore_n (lv' := [(3, .int 1), (6, .int (I 41 0 (3 * a + k))), (5, .int (I 38 0 (3 * q + k))), (4, .int (nI k)), (0, .ref (ad 13 0)), (1, .int (nI q)), (2, .int (nI a))]) hx hb dX5_isFit_80 rfl hl (by decide) rfl (fun ls hl => ?_)
              refine lv_iinc (v := nI (k + 1)) (lv' := [(4, .int (nI (k + 1))), (3, .int 1), (6, .int (I 41 0 (3 * a + k))), (5, .int (I 38 0 (3 * q + k))), (0, .ref (ad 13 0)), (1, .int (nI q)), (2, .int (nI a))]) hx hb dX5_isFit_81 hl (k := 3) rfl (nI_1 k) (by decide) rfl (fun ls hl => ?_)
              refine lv_goto (tgt := 18) hx hb dX5_isFit_84 (by decide) ?_
              exact ih18 (k + 1) true (by omega) (by first | exact hz18 | (rw [← hz18]; simp [kLoop, mFit1, c_1, c_1', c_4, c_5, c_6]; done) | (simp [← hz18, kLoop, mFit1, c_1, c_1', c_4, c_5, c_6]; done) | (rw [← hz18]; simp only [kLoop, mFit1, c_1, c_1', c_4, c_5, c_6, eq_self, if_true, if_false, Bool.false_eq_true, decide_true, decide_false, Bool.not_true, Bool.not_false, Bool.false_or, Bool.true_or, Bool.and_true, Bool.true_and, Bool.false_and, Bool.and_false, Bool.or_true, Bool.or_false]; done)) _ _ hW hS ls (lv_sub hl [0, 1, 4, 5, 6] rfl)
            · skip
              refine lv_iload hx hb dX5_isFit_64 (lv_at hl 0 rfl) ?_
              refine lv_iload hx hb dX5_isFit_66 (lv_at hl 1 rfl) ?_
              refine lv_ishr hx hb dX5_isFit_68 ?_
              refine lv_iconst (v := 1) hx hb dX5_isFit_69 (by decide) ?_
              refine lv_iand hx hb dX5_isFit_70 ?_
              refine lv_iconst (v := 1) hx hb dX5_isFit_71 (by decide) ?_
              refine lv_icmp_ne (tgt := 79) hx hb dX5_isFit_72 (by decide) (fun c_7 => ?_) (fun c_7 => ?_)
              · skip
                refine lv_iconst (v := 0) hx hb dX5_isFit_79 (by decide) ?_
                refine lv_istore_n (lv' := [(3, .int 0), (6, .int (I 41 0 (3 * a + k))), (5, .int (I 38 0 (3 * q + k))), (4, .int (nI k)), (0, .ref (ad 13 0)), (1, .int (nI q)), (2, .int (nI a))]) hx hb dX5_isFit_80 rfl hl (by decide) rfl (fun ls hl => ?_)
                refine lv_iinc (v := nI (k + 1)) (lv' := [(4, .int (nI (k + 1))), (3, .int 0), (6, .int (I 41 0 (3 * a + k))), (5, .int (I 38 0 (3 * q + k))), (0, .ref (ad 13 0)), (1, .int (nI q)), (2, .int (nI a))]) hx hb dX5_isFit_81 hl (k := 3) rfl (nI_1 k) (by decide) rfl (fun ls hl => ?_)
                refine lv_goto (tgt := 18) hx hb dX5_isFit_84 (by decide) ?_
                exact ih18 (k + 1) false (by omega) (by first | exact hz18 | (rw [← hz18]; simp [kLoop, mFit1, c_1, c_1', c_4, c_5, c_6, c_7]; done) | (simp [← hz18, kLoop, mFit1, c_1, c_1', c_4, c_5, c_6, c_7]; done) | (rw [← hz18]; simp only [kLoop, mFit1, c_1, c_1', c_4, c_5, c_6, c_7, eq_self, if_true, if_false, Bool.false_eq_true, decide_true, decide_false, Bool.not_true, Bool.not_false, Bool.false_or, Bool.true_or, Bool.and_true, Bool.true_and, Bool.false_and, Bool.and_false, Bool.or_true, Bool.or_false]; done)) _ _ hW hS ls (lv_sub hl [0, 1, 4, 5, 6] rfl)
              · skip
                refine lv_iconst (v := 1) hx hb dX5_isFit_75 (by decide) ?_
                refine lv_goto (tgt := 80) hx hb dX5_isFit_76 (by decide) ?_
                refine lv_istore_n (lv' := [(3, .int 1), (6, .int (I 41 0 (3 * a + k))), (5, .int (I 38 0 (3 * q + k))), (4, .int (nI k)), (0, .ref (ad 13 0)), (1, .int (nI q)), (2, .int (nI a))]) hx hb dX5_isFit_80 rfl hl (by decide) rfl (fun ls hl => ?_)
                refine lv_iinc (v := nI (k + 1)) (lv' := [(4, .int (nI (k + 1))), (3, .int 1), (6, .int (I 41 0 (3 * a + k))), (5, .int (I 38 0 (3 * q + k))), (0, .ref (ad 13 0)), (1, .int (nI q)), (2, .int (nI a))]) hx hb dX5_isFit_81 hl (k := 3) rfl (nI_1 k) (by decide) rfl (fun ls hl => ?_)
                refine lv_goto (tgt := 18) hx hb dX5_isFit_84 (by decide) ?_
                exact ih18 (k + 1) true (by omega) (by first | exact hz18 | (rw [← hz18]; simp [kLoop, mFit1, c_1, c_1', c_4, c_5, c_6, c_7]; done) | (simp [← hz18, kLoop, mFit1, c_1, c_1', c_4, c_5, c_6, c_7]; done) | (rw [← hz18]; simp only [kLoop, mFit1, c_1, c_1', c_4, c_5, c_6, c_7, eq_self, if_true, if_false, Bool.false_eq_true, decide_true, decide_false, Bool.not_true, Bool.not_false, Bool.false_or, Bool.true_or, Bool.and_true, Bool.true_and, Bool.false_and, Bool.and_false, Bool.or_true, Bool.or_false]; done)) _ _ hW hS ls (lv_sub hl [0, 1, 4, 5, 6] rfl)
    exact loop18 3 0 false (by omega) (by simp [mFit, c_1, c_1']) _ _ hW hS ls (lv_sub hl [0, 1, 2, 3, 4] rfl)
  · skip
    have c_1' : I 28 0 a < 0 := Int32.not_le.mp c_1
    refine lv_iconst (v := 1) hx hb dX5_isFit_9 (by decide) ?_
    refine lv_goto (tgt := 14) hx hb dX5_isFit_10 (by decide) ?_
    refine lv_istore_n (lv' := [(3, .int 1), (0, .ref (ad 13 0)), (1, .int (nI q)), (2, .int (nI a))]) hx hb dX5_isFit_14 rfl hl (by decide) rfl (fun ls hl => ?_)
    refine lv_iconst (v := 0) hx hb dX5_isFit_15 (by decide) ?_
    refine lv_istore (lv' := [(4, .int 0), (3, .int 1), (0, .ref (ad 13 0)), (1, .int (nI q)), (2, .int (nI a))]) hx hb dX5_isFit_16 hl (by decide) rfl (fun ls hl => ?_)
    have loop18 : ∀ (d k : Nat) (r : Bool), k + d = 3 → (kLoop (mFit1 I q a) d k r = mFit I q a) → ∀ (H : Heap) (locs : List Loc), Wd G ad nA nK I J H → va_S (k_A G) s.heap H locs → ∀ ls : Array Slot, lv_has ls 7 [(4, .int (nI k)), (3, .int (k_b r)), (0, .ref (ad 13 0)), (1, .int (nI q)), (2, .int (nI a))] → W p l e { frames := 0, cells := 0, slots := 0, locals := 0 } s m ([.ref (ad 13 0), .int (nI q), .int (nI a)] : List Value).toArray below meth c H locs 0 0 (MQ below (k_Q G (some (.int (k_b (mFit I q a)))) (Wd G ad nA nK I J)) ([.ref (ad 13 0), .int (nI q), .int (nI a)] : List Value).toArray s 0 0 (k_A G)) (F0 m 18 ls []) := by
      intro d
      induction d with
      | zero =>
        intro k r hi18 hz18  H locs hW hS ls hl
        refine lv_iload hx hb dX5_isFit_18 (lv_at hl 0 rfl) ?_
        refine lv_iconst (v := 3) hx hb dX5_isFit_20 (by decide) ?_
        refine lv_icmp_ge (tgt := 87) hx hb dX5_isFit_21 (by decide) (fun _ => ?_) (fun c_8 => absurd (nI_le (a := 3) (b := k) (by omega) (by omega)) c_8)
        refine lv_iload_n hx hb dX5_isFit_87 rfl (lv_at hl 1 rfl) ?_
        exact w_zret X hr hlk hS (by first | exact hz18 | (rw [← hz18]; simp [kLoop, mFit1, c_1, c_1']; done) | (simp [← hz18, kLoop, mFit1, c_1, c_1']; done) | (rw [← hz18]; simp only [kLoop, mFit1, c_1, c_1', eq_self, if_true, if_false, Bool.false_eq_true, decide_true, decide_false, Bool.not_true, Bool.not_false, Bool.false_or, Bool.true_or, Bool.and_true, Bool.true_and, Bool.false_and, Bool.and_false, Bool.or_true, Bool.or_false]; done) | (simp [kLoop, mFit1, c_1, c_1']; done)) (k_b_n _) hW dX5_isFit_88
      | succ d ih =>
        intro k r hi18 hz18  H locs hW hS ls hl
        have hlt18 : k < 3 := by omega
        have ih18 := ih
        refine lv_iload hx hb dX5_isFit_18 (lv_at hl 0 rfl) ?_
        refine lv_iconst (v := 3) hx hb dX5_isFit_20 (by decide) ?_
        refine lv_icmp_ge (tgt := 87) hx hb dX5_isFit_21 (by decide) (fun c_9 => absurd c_9 (nI_ge (a := k) (b := 3) (by omega) (by omega))) (fun _ => ?_)
        refine lv_aload_n hx hb dX5_isFit_24 rfl (lv_at hl 2 rfl) ?_
        refine w_get X hW 13 0 Nat.zero_lt_one rfl rfl inG5 18 (by decide) g516 rfl dX5_isFit_25 ?_
        refine lv_iconst (v := 3) hx hb dX5_isFit_28 (by decide) ?_
        refine lv_iload_n hx hb dX5_isFit_29 rfl (lv_at hl 3 rfl) ?_
        refine lw_imulN (a := 3) (b := q) hx hb dX5_isFit_30 ?_
        refine lv_iload hx hb dX5_isFit_31 (lv_at hl 0 rfl) ?_
        refine lw_iaddN (a := 3 * q) (b := k) hx hb dX5_isFit_33 ?_
        refine w_ialdN (i := 3 * q + k) X hW 38 0 Nat.zero_lt_one rfl (by omega) dX5_isFit_34 ?_
        refine lv_istore (lv' := [(5, .int (I 38 0 (3 * q + k))), (4, .int (nI k)), (3, .int (k_b r)), (0, .ref (ad 13 0)), (1, .int (nI q)), (2, .int (nI a))]) hx hb dX5_isFit_35 hl (by decide) rfl (fun ls hl => ?_)
        refine lv_aload_n hx hb dX5_isFit_37 rfl (lv_at hl 3 rfl) ?_
        refine w_get X hW 13 0 Nat.zero_lt_one rfl rfl inG5 21 (by decide) g519 rfl dX5_isFit_38 ?_
        refine lv_iconst (v := 3) hx hb dX5_isFit_41 (by decide) ?_
        refine lv_iload_n hx hb dX5_isFit_42 rfl (lv_at hl 5 rfl) ?_
        refine lw_imulN (a := 3) (b := a) hx hb dX5_isFit_43 ?_
        refine lv_iload hx hb dX5_isFit_44 (lv_at hl 1 rfl) ?_
        refine lw_iaddN (a := 3 * a) (b := k) hx hb dX5_isFit_46 ?_
        refine w_ialdN (i := 3 * a + k) X hW 41 0 Nat.zero_lt_one rfl (by omega) dX5_isFit_47 ?_
        refine lv_istore (lv' := [(6, .int (I 41 0 (3 * a + k))), (5, .int (I 38 0 (3 * q + k))), (4, .int (nI k)), (3, .int (k_b r)), (0, .ref (ad 13 0)), (1, .int (nI q)), (2, .int (nI a))]) hx hb dX5_isFit_48 hl (by decide) rfl (fun ls hl => ?_)
        refine lv_iload_n hx hb dX5_isFit_50 rfl (lv_at hl 3 rfl) ?_
        refine lb_if_eq (tgt := 79) hx hb dX5_isFit_51 (by decide) (fun c_10 => ?_) (fun c_10 => ?_)
        · skip
          refine lv_iconst (v := 0) hx hb dX5_isFit_79 (by decide) ?_
          refine lv_istore_n (lv' := [(3, .int 0), (6, .int (I 41 0 (3 * a + k))), (5, .int (I 38 0 (3 * q + k))), (4, .int (nI k)), (0, .ref (ad 13 0)), (1, .int (nI q)), (2, .int (nI a))]) hx hb dX5_isFit_80 rfl hl (by decide) rfl (fun ls hl => ?_)
          refine lv_iinc (v := nI (k + 1)) (lv' := [(4, .int (nI (k + 1))), (3, .int 0), (6, .int (I 41 0 (3 * a + k))), (5, .int (I 38 0 (3 * q + k))), (0, .ref (ad 13 0)), (1, .int (nI q)), (2, .int (nI a))]) hx hb dX5_isFit_81 hl (k := 3) rfl (nI_1 k) (by decide) rfl (fun ls hl => ?_)
          refine lv_goto (tgt := 18) hx hb dX5_isFit_84 (by decide) ?_
          exact ih18 (k + 1) false (by omega) (by first | exact hz18 | (rw [← hz18]; simp [kLoop, mFit1, c_1, c_1', c_10]; done) | (simp [← hz18, kLoop, mFit1, c_1, c_1', c_10]; done) | (rw [← hz18]; simp only [kLoop, mFit1, c_1, c_1', c_10, eq_self, if_true, if_false, Bool.false_eq_true, decide_true, decide_false, Bool.not_true, Bool.not_false, Bool.false_or, Bool.true_or, Bool.and_true, Bool.true_and, Bool.false_and, Bool.and_false, Bool.or_true, Bool.or_false]; done)) _ _ hW hS ls (lv_sub hl [0, 1, 4, 5, 6] rfl)
        · skip
          refine lv_iload hx hb dX5_isFit_54 (lv_at hl 0 rfl) ?_
          refine lv_if_eq (tgt := 79) hx hb dX5_isFit_56 (by decide) (fun c_11 => ?_) (fun c_11 => ?_)
          · skip
            refine lv_iconst (v := 0) hx hb dX5_isFit_79 (by decide) ?_
            refine lv_istore_n (lv' := [(3, .int 0), (6, .int (I 41 0 (3 * a + k))), (5, .int (I 38 0 (3 * q + k))), (4, .int (nI k)), (0, .ref (ad 13 0)), (1, .int (nI q)), (2, .int (nI a))]) hx hb dX5_isFit_80 rfl hl (by decide) rfl (fun ls hl => ?_)
            refine lv_iinc (v := nI (k + 1)) (lv' := [(4, .int (nI (k + 1))), (3, .int 0), (6, .int (I 41 0 (3 * a + k))), (5, .int (I 38 0 (3 * q + k))), (0, .ref (ad 13 0)), (1, .int (nI q)), (2, .int (nI a))]) hx hb dX5_isFit_81 hl (k := 3) rfl (nI_1 k) (by decide) rfl (fun ls hl => ?_)
            refine lv_goto (tgt := 18) hx hb dX5_isFit_84 (by decide) ?_
            exact ih18 (k + 1) false (by omega) (by first | exact hz18 | (rw [← hz18]; simp [kLoop, mFit1, c_1, c_1', c_10, c_11]; done) | (simp [← hz18, kLoop, mFit1, c_1, c_1', c_10, c_11]; done) | (rw [← hz18]; simp only [kLoop, mFit1, c_1, c_1', c_10, c_11, eq_self, if_true, if_false, Bool.false_eq_true, decide_true, decide_false, Bool.not_true, Bool.not_false, Bool.false_or, Bool.true_or, Bool.and_true, Bool.true_and, Bool.false_and, Bool.and_false, Bool.or_true, Bool.or_false]; done)) _ _ hW hS ls (lv_sub hl [0, 1, 4, 5, 6] rfl)
          · skip
            refine lv_iload hx hb dX5_isFit_59 (lv_at hl 1 rfl) ?_
            refine lv_if_lt (tgt := 75) hx hb dX5_isFit_61 (by decide) (fun c_12 => ?_) (fun c_12 => ?_)
            · skip
              refine lv_iconst (v := 1) hx hb dX5_isFit_75 (by decide) ?_
              refine lv_goto (tgt := 80) hx hb dX5_isFit_76 (by decide) ?_
              refine lv_istore_n (lv' := [(3, .int 1), (6, .int (I 41 0 (3 * a + k))), (5, .int (I 38 0 (3 * q + k))), (4, .int (nI k)), (0, .ref (ad 13 0)), (1, .int (nI q)), (2, .int (nI a))]) hx hb dX5_isFit_80 rfl hl (by decide) rfl (fun ls hl => ?_)
              refine lv_iinc (v := nI (k + 1)) (lv' := [(4, .int (nI (k + 1))), (3, .int 1), (6, .int (I 41 0 (3 * a + k))), (5, .int (I 38 0 (3 * q + k))), (0, .ref (ad 13 0)), (1, .int (nI q)), (2, .int (nI a))]) hx hb dX5_isFit_81 hl (k := 3) rfl (nI_1 k) (by decide) rfl (fun ls hl => ?_)
              refine lv_goto (tgt := 18) hx hb dX5_isFit_84 (by decide) ?_
              exact ih18 (k + 1) true (by omega) (by first | exact hz18 | (rw [← hz18]; simp [kLoop, mFit1, c_1, c_1', c_10, c_11, c_12]; done) | (simp [← hz18, kLoop, mFit1, c_1, c_1', c_10, c_11, c_12]; done) | (rw [← hz18]; simp only [kLoop, mFit1, c_1, c_1', c_10, c_11, c_12, eq_self, if_true, if_false, Bool.false_eq_true, decide_true, decide_false, Bool.not_true, Bool.not_false, Bool.false_or, Bool.true_or, Bool.and_true, Bool.true_and, Bool.false_and, Bool.and_false, Bool.or_true, Bool.or_false]; done)) _ _ hW hS ls (lv_sub hl [0, 1, 4, 5, 6] rfl)
            · skip
              refine lv_iload hx hb dX5_isFit_64 (lv_at hl 0 rfl) ?_
              refine lv_iload hx hb dX5_isFit_66 (lv_at hl 1 rfl) ?_
              refine lv_ishr hx hb dX5_isFit_68 ?_
              refine lv_iconst (v := 1) hx hb dX5_isFit_69 (by decide) ?_
              refine lv_iand hx hb dX5_isFit_70 ?_
              refine lv_iconst (v := 1) hx hb dX5_isFit_71 (by decide) ?_
              refine lv_icmp_ne (tgt := 79) hx hb dX5_isFit_72 (by decide) (fun c_13 => ?_) (fun c_13 => ?_)
              · skip
                refine lv_iconst (v := 0) hx hb dX5_isFit_79 (by decide) ?_
                refine lv_istore_n (lv' := [(3, .int 0), (6, .int (I 41 0 (3 * a + k))), (5, .int (I 38 0 (3 * q + k))), (4, .int (nI k)), (0, .ref (ad 13 0)), (1, .int (nI q)), (2, .int (nI a))]) hx hb dX5_isFit_80 rfl hl (by decide) rfl (fun ls hl => ?_)
                refine lv_iinc (v := nI (k + 1)) (lv' := [(4, .int (nI (k + 1))), (3, .int 0), (6, .int (I 41 0 (3 * a + k))), (5, .int (I 38 0 (3 * q + k))), (0, .ref (ad 13 0)), (1, .int (nI q)), (2, .int (nI a))]) hx hb dX5_isFit_81 hl (k := 3) rfl (nI_1 k) (by decide) rfl (fun ls hl => ?_)
                refine lv_goto (tgt := 18) hx hb dX5_isFit_84 (by decide) ?_
                exact ih18 (k + 1) false (by omega) (by first | exact hz18 | (rw [← hz18]; simp [kLoop, mFit1, c_1, c_1', c_10, c_11, c_12, c_13]; done) | (simp [← hz18, kLoop, mFit1, c_1, c_1', c_10, c_11, c_12, c_13]; done) | (rw [← hz18]; simp only [kLoop, mFit1, c_1, c_1', c_10, c_11, c_12, c_13, eq_self, if_true, if_false, Bool.false_eq_true, decide_true, decide_false, Bool.not_true, Bool.not_false, Bool.false_or, Bool.true_or, Bool.and_true, Bool.true_and, Bool.false_and, Bool.and_false, Bool.or_true, Bool.or_false]; done)) _ _ hW hS ls (lv_sub hl [0, 1, 4, 5, 6] rfl)
              · skip
                refine lv_iconst (v := 1) hx hb dX5_isFit_75 (by decide) ?_
                refine lv_goto (tgt := 80) hx hb dX5_isFit_76 (by decide) ?_
                refine lv_istore_n (lv' := [(3, .int 1), (6, .int (I 41 0 (3 * a + k))), (5, .int (I 38 0 (3 * q + k))), (4, .int (nI k)), (0, .ref (ad 13 0)), (1, .int (nI q)), (2, .int (nI a))]) hx hb dX5_isFit_80 rfl hl (by decide) rfl (fun ls hl => ?_)
                refine lv_iinc (v := nI (k + 1)) (lv' := [(4, .int (nI (k + 1))), (3, .int 1), (6, .int (I 41 0 (3 * a + k))), (5, .int (I 38 0 (3 * q + k))), (0, .ref (ad 13 0)), (1, .int (nI q)), (2, .int (nI a))]) hx hb dX5_isFit_81 hl (k := 3) rfl (nI_1 k) (by decide) rfl (fun ls hl => ?_)
                refine lv_goto (tgt := 18) hx hb dX5_isFit_84 (by decide) ?_
                exact ih18 (k + 1) true (by omega) (by first | exact hz18 | (rw [← hz18]; simp [kLoop, mFit1, c_1, c_1', c_10, c_11, c_12, c_13]; done) | (simp [← hz18, kLoop, mFit1, c_1, c_1', c_10, c_11, c_12, c_13]; done) | (rw [← hz18]; simp only [kLoop, mFit1, c_1, c_1', c_10, c_11, c_12, c_13, eq_self, if_true, if_false, Bool.false_eq_true, decide_true, decide_false, Bool.not_true, Bool.not_false, Bool.false_or, Bool.true_or, Bool.and_true, Bool.true_and, Bool.false_and, Bool.and_false, Bool.or_true, Bool.or_false]; done)) _ _ hW hS ls (lv_sub hl [0, 1, 4, 5, 6] rfl)
    exact loop18 3 0 true (by omega) (by simp [mFit, c_1, c_1']) _ _ hW hS ls (lv_sub hl [0, 1, 2, 3, 4] rfl)
set_option maxHeartbeats 4000000 in
set_option maxRecDepth 100000 in
theorem m_X5_questionOf (l : Launch) (G : k_G) (ad : Nat → Nat → Nat) (nA nK : Nat) (mA mK : Nat) (E : Nat → Nat) (I : k_I) (J : k_J) (q : Nat) (a : Nat) (hs : m_S mA mK E I) (hq : q < mK) (ha : a < mA) : k_Met l yX5_questionOf cX5_questionOf 4 (some FieldType.int) { frames := 1, cells := 0, slots := 0, locals := 20 } G [.ref (ad 13 0), .int (nI q), .int (nI a)] (Wd G ad nA nK I J) (some (.int (mQu I q a))) (Wd G ad nA nK I J) 0 0 := by
  refine k_body (by decide) (Nat.le_of_ble_eq_true rfl) ?_
  intro p e s m below meth c ls X hr hlk hnm hW hS hl
  have hx := X.1.1
  have hb := X.1.2.1
  have hG := X.1.2.2.2.2
  have hA24 := hs.2.2.1
  have hK30 := hs.2.2.2.1
  have hl : lv_has ls 4 [(0, .ref (ad 13 0)), (1, .int (nI q)), (2, .int (nI a))] := hl
  refine lv_iconst (v := 0) hx hb dX5_questionOf_0 (by decide) ?_
  refine lv_istore_n (lv' := [(3, .int 0), (0, .ref (ad 13 0)), (1, .int (nI q)), (2, .int (nI a))]) hx hb dX5_questionOf_1 rfl hl (by decide) rfl (fun ls hl => ?_)
  have loop2 : ∀ (d k : Nat), k + d = 3 → (kFindI (mQu1 I q a) d k = mQu I q a) → ∀ (H : Heap) (locs : List Loc), Wd G ad nA nK I J H → va_S (k_A G) s.heap H locs → ∀ ls : Array Slot, lv_has ls 4 [(3, .int (nI k)), (0, .ref (ad 13 0)), (1, .int (nI q)), (2, .int (nI a))] → W p l e { frames := 1, cells := 0, slots := 0, locals := 20 } s m ([.ref (ad 13 0), .int (nI q), .int (nI a)] : List Value).toArray below meth c H locs 0 0 (MQ below (k_Q G (some (.int (mQu I q a))) (Wd G ad nA nK I J)) ([.ref (ad 13 0), .int (nI q), .int (nI a)] : List Value).toArray s 0 0 (k_A G)) (F0 m 2 ls []) := by
    intro d
    induction d with
    | zero =>
      intro k hi2 hz2  H locs hW hS ls hl
      refine lv_iload_n hx hb dX5_questionOf_2 rfl (lv_at hl 0 rfl) ?_
      refine lv_iconst (v := 3) hx hb dX5_questionOf_3 (by decide) ?_
      refine lv_icmp_ge (tgt := 45) hx hb dX5_questionOf_4 (by decide) (fun _ => ?_) (fun c_1 => absurd (nI_le (a := 3) (b := k) (by omega) (by omega)) c_1)
      refine lv_iconst (v := (-1)) hx hb dX5_questionOf_45 (by decide) ?_
      exact w_iret X hr hlk hS (by first | exact hz2 | (rw [← hz2]; simp [kFindI, mQu1]; done) | (simp [← hz2, kFindI, mQu1]; done) | (rw [← hz2]; simp only [kFindI, mQu1, eq_self, if_true, if_false, Bool.false_eq_true, decide_true, decide_false, Bool.not_true, Bool.not_false, Bool.false_or, Bool.true_or, Bool.and_true, Bool.true_and, Bool.false_and, Bool.and_false, Bool.or_true, Bool.or_false]; done) | (simp [kFindI, mQu1]; done)) hW dX5_questionOf_46
    | succ d ih =>
      intro k hi2 hz2  H locs hW hS ls hl
      have hlt2 : k < 3 := by omega
      have ih2 := ih
      refine lv_iload_n hx hb dX5_questionOf_2 rfl (lv_at hl 0 rfl) ?_
      refine lv_iconst (v := 3) hx hb dX5_questionOf_3 (by decide) ?_
      refine lv_icmp_ge (tgt := 45) hx hb dX5_questionOf_4 (by decide) (fun c_2 => absurd c_2 (nI_ge (a := k) (b := 3) (by omega) (by omega))) (fun _ => ?_)
      refine lv_aload_n hx hb dX5_questionOf_7 rfl (lv_at hl 1 rfl) ?_
      refine w_get X hW 13 0 Nat.zero_lt_one rfl rfl inG5 18 (by decide) g516 rfl dX5_questionOf_8 ?_
      refine lv_iconst (v := 3) hx hb dX5_questionOf_11 (by decide) ?_
      refine lv_iload_n hx hb dX5_questionOf_12 rfl (lv_at hl 2 rfl) ?_
      refine lw_imulN (a := 3) (b := q) hx hb dX5_questionOf_13 ?_
      refine lv_iload_n hx hb dX5_questionOf_14 rfl (lv_at hl 0 rfl) ?_
      refine lw_iaddN (a := 3 * q) (b := k) hx hb dX5_questionOf_15 ?_
      refine w_ialdN (i := 3 * q + k) X hW 38 0 Nat.zero_lt_one rfl (by omega) dX5_questionOf_16 ?_
      refine lv_if_ge (tgt := 39) hx hb dX5_questionOf_17 (by decide) (fun c_3 => ?_) (fun c_3 => ?_)
      · skip
        have c_3' : ¬ I 38 0 (3 * q + k) < 0 := Int32.not_lt.mpr c_3
        refine lv_iinc (v := nI (k + 1)) (lv' := [(3, .int (nI (k + 1))), (0, .ref (ad 13 0)), (1, .int (nI q)), (2, .int (nI a))]) hx hb dX5_questionOf_39 hl (k := 0) rfl (nI_1 k) (by decide) rfl (fun ls hl => ?_)
        refine lv_goto (tgt := 2) hx hb dX5_questionOf_42 (by decide) ?_
        exact ih2 (k + 1) (by omega) (by first | exact hz2 | (rw [← hz2]; simp [kFindI, mQu1, c_3, c_3']; done) | (simp [← hz2, kFindI, mQu1, c_3, c_3']; done) | (rw [← hz2]; simp only [kFindI, mQu1, c_3, c_3', eq_self, if_true, if_false, Bool.false_eq_true, decide_true, decide_false, Bool.not_true, Bool.not_false, Bool.false_or, Bool.true_or, Bool.and_true, Bool.true_and, Bool.false_and, Bool.and_false, Bool.or_true, Bool.or_false]; done)) _ _ hW hS ls (lv_sub hl [0, 1, 2, 3] rfl)
      · skip
        have c_3' : I 38 0 (3 * q + k) < 0 := Int32.not_le.mp c_3
        refine lv_aload_n hx hb dX5_questionOf_20 rfl (lv_at hl 1 rfl) ?_
        refine w_get X hW 13 0 Nat.zero_lt_one rfl rfl inG5 21 (by decide) g519 rfl dX5_questionOf_21 ?_
        refine lv_iconst (v := 3) hx hb dX5_questionOf_24 (by decide) ?_
        refine lv_iload_n hx hb dX5_questionOf_25 rfl (lv_at hl 3 rfl) ?_
        refine lw_imulN (a := 3) (b := a) hx hb dX5_questionOf_26 ?_
        refine lv_iload_n hx hb dX5_questionOf_27 rfl (lv_at hl 0 rfl) ?_
        refine lw_iaddN (a := 3 * a) (b := k) hx hb dX5_questionOf_28 ?_
        refine w_ialdN (i := 3 * a + k) X hW 41 0 Nat.zero_lt_one rfl (by omega) dX5_questionOf_29 ?_
        refine lv_iload_n hx hb dX5_questionOf_30 rfl (lv_at hl 0 rfl) ?_
        refine w_cS1 X hS (m_X5_allOf l G (Wd G ad nA nK I J) (nI k) ) rfl rfl g646 g4 g644 g645 hd_X5_allOf ⟨Nat.le_of_ble_eq_true rfl, Nat.le_of_ble_eq_true rfl⟩ hW hl.1 rfl (Nat.le_of_ble_eq_true rfl) dX5_questionOf_31 (Nat.zero_le _) (Nat.zero_le _) (fun H locs hW hS => ?_)
        refine lv_icmp_eq (tgt := 39) hx hb dX5_questionOf_34 (by decide) (fun c_4 => ?_) (fun c_4 => ?_)
        · skip
          refine lv_iinc (v := nI (k + 1)) (lv' := [(3, .int (nI (k + 1))), (0, .ref (ad 13 0)), (1, .int (nI q)), (2, .int (nI a))]) hx hb dX5_questionOf_39 hl (k := 0) rfl (nI_1 k) (by decide) rfl (fun ls hl => ?_)
          refine lv_goto (tgt := 2) hx hb dX5_questionOf_42 (by decide) ?_
          exact ih2 (k + 1) (by omega) (by first | exact hz2 | (rw [← hz2]; simp [kFindI, mQu1, c_3, c_3', c_4]; done) | (simp [← hz2, kFindI, mQu1, c_3, c_3', c_4]; done) | (rw [← hz2]; simp only [kFindI, mQu1, c_3, c_3', c_4, eq_self, if_true, if_false, Bool.false_eq_true, decide_true, decide_false, Bool.not_true, Bool.not_false, Bool.false_or, Bool.true_or, Bool.and_true, Bool.true_and, Bool.false_and, Bool.and_false, Bool.or_true, Bool.or_false]; done)) _ _ hW hS ls (lv_sub hl [0, 1, 2, 3] rfl)
        · skip
          refine lv_iload_n hx hb dX5_questionOf_37 rfl (lv_at hl 0 rfl) ?_
          exact w_iret X hr hlk hS (by first | exact hz2 | (rw [← hz2]; simp [kFindI, mQu1, c_3, c_3', c_4]; done) | (simp [← hz2, kFindI, mQu1, c_3, c_3', c_4]; done) | (rw [← hz2]; simp only [kFindI, mQu1, c_3, c_3', c_4, eq_self, if_true, if_false, Bool.false_eq_true, decide_true, decide_false, Bool.not_true, Bool.not_false, Bool.false_or, Bool.true_or, Bool.and_true, Bool.true_and, Bool.false_and, Bool.and_false, Bool.or_true, Bool.or_false]; done) | (simp [kFindI, mQu1, c_3, c_3', c_4]; done)) hW dX5_questionOf_38
  exact loop2 3 0 (by omega) rfl _ _ hW hS ls (lv_sub hl [0, 1, 2, 3] rfl)
set_option maxHeartbeats 4000000 in
set_option maxRecDepth 100000 in
theorem m_X5_costWith (l : Launch) (G : k_G) (ad : Nat → Nat → Nat) (nA nK : Nat) (mA mK : Nat) (E : Nat → Nat) (I : k_I) (J : k_J) (x : Int64) (q : Nat) (a : Nat) (hs : m_S mA mK E I) (hq : q < mK) (ha : a < mA) : k_Met l yX5_costWith cX5_costWith 10 (some FieldType.int) { frames := 2, cells := 0, slots := 0, locals := 43 } G [.ref (ad 13 0), .long (x), .int (nI q), .int (nI a)] (Wd G ad nA nK I J) (some (.int (mCost I J x q a))) (Wd G ad nA nK I J) 0 0 := by
  refine k_body (by decide) (Nat.le_of_ble_eq_true rfl) ?_
  intro p e s m below meth c ls X hr hlk hnm hW hS hl
  have hx := X.1.1
  have hb := X.1.2.1
  have hG := X.1.2.2.2.2
  have hA24 := hs.2.2.1
  have hK30 := hs.2.2.2.1
  have hl : lv_has ls 10 [(0, .ref (ad 13 0)), (1, .long (x)), (3, .int (nI q)), (4, .int (nI a))] := hl
  refine lv_aload_n hx hb dX5_costWith_0 rfl (lv_at hl 0 rfl) ?_
  refine lv_lload_n hx hb dX5_costWith_1 rfl (lv_at hl 1 rfl) ?_
  refine w_cV1 X hS (m_X5_folded l G ad nA nK mA mK E I J x ) rfl rfl g706 g4 g703 g705 p41 hd_X5_folded ⟨Nat.le_of_ble_eq_true rfl, Nat.le_of_ble_eq_true rfl⟩ (k_rec X hW 13 0 Nat.zero_lt_one rfl rfl) hW hl.1 rfl (Nat.le_of_ble_eq_true rfl) dX5_costWith_2 (Nat.zero_le _) (Nat.zero_le _) (fun H locs hW hS => ?_)
  refine lv_lstore (lv' := [(5, .long (mFold (I 20 0) x)), (0, .ref (ad 13 0)), (1, .long (x)), (3, .int (nI q)), (4, .int (nI a))]) hx hb dX5_costWith_5 hl (by decide) rfl (fun ls hl => ?_)
  refine lv_aload_n hx hb dX5_costWith_7 rfl (lv_at hl 1 rfl) ?_
  refine lv_aload_n hx hb dX5_costWith_8 rfl (lv_at hl 1 rfl) ?_
  refine w_get X hW 13 0 Nat.zero_lt_one rfl rfl inG5 20 (by decide) g518 rfl dX5_costWith_9 ?_
  refine lv_iload hx hb dX5_costWith_12 (lv_at hl 4 rfl) ?_
  refine w_laldN (i := a) X hW 40 0 Nat.zero_lt_one rfl (by omega) dX5_costWith_14 ?_
  refine w_cV1 X hS (m_X5_folded l G ad nA nK mA mK E I J (J 40 0 a) ) rfl rfl g706 g4 g703 g705 p41 hd_X5_folded ⟨Nat.le_of_ble_eq_true rfl, Nat.le_of_ble_eq_true rfl⟩ (k_rec X hW 13 0 Nat.zero_lt_one rfl rfl) hW hl.1 rfl (Nat.le_of_ble_eq_true rfl) dX5_costWith_15 (Nat.zero_le _) (Nat.zero_le _) (fun H locs hW hS => ?_)
  refine lv_lstore (lv' := [(7, .long (mFold (I 20 0) (J 40 0 a))), (5, .long (mFold (I 20 0) x)), (0, .ref (ad 13 0)), (1, .long (x)), (3, .int (nI q)), (4, .int (nI a))]) hx hb dX5_costWith_18 hl (by decide) rfl (fun ls hl => ?_)
  refine lv_aload_n hx hb dX5_costWith_20 rfl (lv_at hl 2 rfl) ?_
  refine w_get X hW 13 0 Nat.zero_lt_one rfl rfl inG5 14 (by decide) g512 rfl dX5_costWith_21 ?_
  refine lv_iload hx hb dX5_costWith_24 (lv_at hl 5 rfl) ?_
  refine w_ialdN (i := a) X hW 34 0 Nat.zero_lt_one rfl (by omega) dX5_costWith_26 ?_
  refine lv_bipush (v := 9) hx hb dX5_costWith_27 (by decide) ?_
  refine lv_icmp_le (tgt := 37) hx hb dX5_costWith_29 (by decide) (fun c_1 => ?_) (fun c_1 => ?_)
  · skip
    refine lv_aload_n hx hb dX5_costWith_37 rfl (lv_at hl 2 rfl) ?_
    refine w_get X hW 13 0 Nat.zero_lt_one rfl rfl inG5 14 (by decide) g512 rfl dX5_costWith_38 ?_
    refine lv_iload hx hb dX5_costWith_41 (lv_at hl 5 rfl) ?_
    refine w_ialdN (i := a) X hW 34 0 Nat.zero_lt_one rfl (by omega) dX5_costWith_43 ?_
    refine lv_bipush (v := (-9)) hx hb dX5_costWith_44 (by decide) ?_
    refine lv_icmp_ge (tgt := 54) hx hb dX5_costWith_46 (by decide) (fun c_2 => ?_) (fun c_2 => ?_)
    · skip
      refine lv_aload_n hx hb dX5_costWith_54 rfl (lv_at hl 2 rfl) ?_
      refine w_get X hW 13 0 Nat.zero_lt_one rfl rfl inG5 14 (by decide) g512 rfl dX5_costWith_55 ?_
      refine lv_iload hx hb dX5_costWith_58 (lv_at hl 5 rfl) ?_
      refine w_ialdN (i := a) X hW 34 0 Nat.zero_lt_one rfl (by omega) dX5_costWith_60 ?_
      refine lv_istore (lv' := [(9, .int (I 34 0 a)), (7, .long (mFold (I 20 0) (J 40 0 a))), (5, .long (mFold (I 20 0) x)), (0, .ref (ad 13 0)), (1, .long (x)), (3, .int (nI q)), (4, .int (nI a))]) hx hb dX5_costWith_61 hl (by decide) rfl (fun ls hl => ?_)
      refine lv_bipush (v := 10) hx hb dX5_costWith_63 (by decide) ?_
      refine lv_lload hx hb dX5_costWith_65 (lv_at hl 2 rfl) ?_
      refine lv_lload hx hb dX5_costWith_67 (lv_at hl 1 rfl) ?_
      refine lv_ldc2 hx hb X.1.2.2.2.1 (hG _ g733) dX5_costWith_69 ?_
      refine lv_lxor hx hb dX5_costWith_72 ?_
      refine lv_land hx hb dX5_costWith_73 ?_
      refine w_cS1 X hS (m_X5_many l G (Wd G ad nA nK I J) ((mFold (I 20 0) x) &&& ((mFold (I 20 0) (J 40 0 a)) ^^^ (-1))) ) rfl rfl g709 g4 g707 g708 hd_X5_many ⟨Nat.le_of_ble_eq_true rfl, Nat.le_of_ble_eq_true rfl⟩ hW hl.1 rfl (Nat.le_of_ble_eq_true rfl) dX5_costWith_74 (Nat.zero_le _) (Nat.zero_le _) (fun H locs hW hS => ?_)
      refine lv_imul hx hb dX5_costWith_77 ?_
      refine lv_iconst (v := 3) hx hb dX5_costWith_78 (by decide) ?_
      refine lv_lload hx hb dX5_costWith_79 (lv_at hl 1 rfl) ?_
      refine lv_lload hx hb dX5_costWith_81 (lv_at hl 2 rfl) ?_
      refine lv_ldc2 hx hb X.1.2.2.2.1 (hG _ g733) dX5_costWith_83 ?_
      refine lv_lxor hx hb dX5_costWith_86 ?_
      refine lv_land hx hb dX5_costWith_87 ?_
      refine w_cS1 X hS (m_X5_many l G (Wd G ad nA nK I J) ((mFold (I 20 0) (J 40 0 a)) &&& ((mFold (I 20 0) x) ^^^ (-1))) ) rfl rfl g709 g4 g707 g708 hd_X5_many ⟨Nat.le_of_ble_eq_true rfl, Nat.le_of_ble_eq_true rfl⟩ hW hl.1 rfl (Nat.le_of_ble_eq_true rfl) dX5_costWith_88 (Nat.zero_le _) (Nat.zero_le _) (fun H locs hW hS => ?_)
      refine lv_imul hx hb dX5_costWith_91 ?_
      refine lv_iadd hx hb dX5_costWith_92 ?_
      refine lv_aload_n hx hb dX5_costWith_93 rfl (lv_at hl 3 rfl) ?_
      refine w_get X hW 13 0 Nat.zero_lt_one rfl rfl inG5 23 (by decide) g521 rfl dX5_costWith_94 ?_
      refine lv_iload hx hb dX5_costWith_97 (lv_at hl 6 rfl) ?_
      refine w_zaldN (i := a) X hW 43 0 Nat.zero_lt_one rfl (by omega) dX5_costWith_99 ?_
      refine lv_if_eq (tgt := 108) hx hb dX5_costWith_100 (by decide) (fun c_3 => ?_) (fun c_3 => ?_)
      · skip
        refine lv_iconst (v := 0) hx hb dX5_costWith_108 (by decide) ?_
        refine lv_iadd hx hb dX5_costWith_109 ?_
        refine lv_aload_n hx hb dX5_costWith_110 rfl (lv_at hl 3 rfl) ?_
        refine lv_iload_n hx hb dX5_costWith_111 rfl (lv_at hl 5 rfl) ?_
        refine lv_iload hx hb dX5_costWith_112 (lv_at hl 6 rfl) ?_
        refine w_cV1 X hS (m_X5_questionOf l G ad nA nK mA mK E I J q a hs (by first | assumption | omega) (by first | assumption | omega)) rfl rfl g737 g4 g734 g736 p45 hd_X5_questionOf ⟨Nat.le_of_ble_eq_true rfl, Nat.le_of_ble_eq_true rfl⟩ (k_rec X hW 13 0 Nat.zero_lt_one rfl rfl) hW hl.1 rfl (Nat.le_of_ble_eq_true rfl) dX5_costWith_114 (Nat.zero_le _) (Nat.zero_le _) (fun H locs hW hS => ?_)
        refine lv_if_lt (tgt := 124) hx hb dX5_costWith_117 (by decide) (fun c_4 => ?_) (fun c_4 => ?_)
        · skip
          refine lv_iconst (v := 0) hx hb dX5_costWith_124 (by decide) ?_
          refine lv_iadd hx hb dX5_costWith_125 ?_
          refine lv_iload hx hb dX5_costWith_126 (lv_at hl 0 rfl) ?_
          refine lv_isub hx hb dX5_costWith_128 ?_
          exact w_iret X hr hlk hS (by first | rfl | (simp [mCost, mCostF, mClamp, c_1, c_2, c_3, c_4]; done) | (simp [mCost, mCostF, mClamp, c_1, c_2, c_3, c_4]; rfl)) hW dX5_costWith_129
        · skip
          refine lv_iconst (v := 5) hx hb dX5_costWith_120 (by decide) ?_
          refine lv_goto (tgt := 125) hx hb dX5_costWith_121 (by decide) ?_
          refine lv_iadd hx hb dX5_costWith_125 ?_
          refine lv_iload hx hb dX5_costWith_126 (lv_at hl 0 rfl) ?_
          refine lv_isub hx hb dX5_costWith_128 ?_
          exact w_iret X hr hlk hS (by first | rfl | (simp [mCost, mCostF, mClamp, c_1, c_2, c_3, c_4]; done) | (simp [mCost, mCostF, mClamp, c_1, c_2, c_3, c_4]; rfl)) hW dX5_costWith_129
      · skip
        refine lv_bipush (v := 15) hx hb dX5_costWith_103 (by decide) ?_
        refine lv_goto (tgt := 109) hx hb dX5_costWith_105 (by decide) ?_
        refine lv_iadd hx hb dX5_costWith_109 ?_
        refine lv_aload_n hx hb dX5_costWith_110 rfl (lv_at hl 3 rfl) ?_
        refine lv_iload_n hx hb dX5_costWith_111 rfl (lv_at hl 5 rfl) ?_
        refine lv_iload hx hb dX5_costWith_112 (lv_at hl 6 rfl) ?_
        refine w_cV1 X hS (m_X5_questionOf l G ad nA nK mA mK E I J q a hs (by first | assumption | omega) (by first | assumption | omega)) rfl rfl g737 g4 g734 g736 p45 hd_X5_questionOf ⟨Nat.le_of_ble_eq_true rfl, Nat.le_of_ble_eq_true rfl⟩ (k_rec X hW 13 0 Nat.zero_lt_one rfl rfl) hW hl.1 rfl (Nat.le_of_ble_eq_true rfl) dX5_costWith_114 (Nat.zero_le _) (Nat.zero_le _) (fun H locs hW hS => ?_)
        refine lv_if_lt (tgt := 124) hx hb dX5_costWith_117 (by decide) (fun c_5 => ?_) (fun c_5 => ?_)
        · skip
          refine lv_iconst (v := 0) hx hb dX5_costWith_124 (by decide) ?_
          refine lv_iadd hx hb dX5_costWith_125 ?_
          refine lv_iload hx hb dX5_costWith_126 (lv_at hl 0 rfl) ?_
          refine lv_isub hx hb dX5_costWith_128 ?_
          exact w_iret X hr hlk hS (by first | rfl | (simp [mCost, mCostF, mClamp, c_1, c_2, c_3, c_5]; done) | (simp [mCost, mCostF, mClamp, c_1, c_2, c_3, c_5]; rfl)) hW dX5_costWith_129
        · skip
          refine lv_iconst (v := 5) hx hb dX5_costWith_120 (by decide) ?_
          refine lv_goto (tgt := 125) hx hb dX5_costWith_121 (by decide) ?_
          refine lv_iadd hx hb dX5_costWith_125 ?_
          refine lv_iload hx hb dX5_costWith_126 (lv_at hl 0 rfl) ?_
          refine lv_isub hx hb dX5_costWith_128 ?_
          exact w_iret X hr hlk hS (by first | rfl | (simp [mCost, mCostF, mClamp, c_1, c_2, c_3, c_5]; done) | (simp [mCost, mCostF, mClamp, c_1, c_2, c_3, c_5]; rfl)) hW dX5_costWith_129
    · skip
      refine lv_bipush (v := (-9)) hx hb dX5_costWith_49 (by decide) ?_
      refine lv_goto (tgt := 61) hx hb dX5_costWith_51 (by decide) ?_
      refine lv_istore (lv' := [(9, .int ((-9))), (7, .long (mFold (I 20 0) (J 40 0 a))), (5, .long (mFold (I 20 0) x)), (0, .ref (ad 13 0)), (1, .long (x)), (3, .int (nI q)), (4, .int (nI a))]) hx hb dX5_costWith_61 hl (by decide) rfl (fun ls hl => ?_)
      refine lv_bipush (v := 10) hx hb dX5_costWith_63 (by decide) ?_
      refine lv_lload hx hb dX5_costWith_65 (lv_at hl 2 rfl) ?_
      refine lv_lload hx hb dX5_costWith_67 (lv_at hl 1 rfl) ?_
      refine lv_ldc2 hx hb X.1.2.2.2.1 (hG _ g733) dX5_costWith_69 ?_
      refine lv_lxor hx hb dX5_costWith_72 ?_
      refine lv_land hx hb dX5_costWith_73 ?_
      refine w_cS1 X hS (m_X5_many l G (Wd G ad nA nK I J) ((mFold (I 20 0) x) &&& ((mFold (I 20 0) (J 40 0 a)) ^^^ (-1))) ) rfl rfl g709 g4 g707 g708 hd_X5_many ⟨Nat.le_of_ble_eq_true rfl, Nat.le_of_ble_eq_true rfl⟩ hW hl.1 rfl (Nat.le_of_ble_eq_true rfl) dX5_costWith_74 (Nat.zero_le _) (Nat.zero_le _) (fun H locs hW hS => ?_)
      refine lv_imul hx hb dX5_costWith_77 ?_
      refine lv_iconst (v := 3) hx hb dX5_costWith_78 (by decide) ?_
      refine lv_lload hx hb dX5_costWith_79 (lv_at hl 1 rfl) ?_
      refine lv_lload hx hb dX5_costWith_81 (lv_at hl 2 rfl) ?_
      refine lv_ldc2 hx hb X.1.2.2.2.1 (hG _ g733) dX5_costWith_83 ?_
      refine lv_lxor hx hb dX5_costWith_86 ?_
      refine lv_land hx hb dX5_costWith_87 ?_
      refine w_cS1 X hS (m_X5_many l G (Wd G ad nA nK I J) ((mFold (I 20 0) (J 40 0 a)) &&& ((mFold (I 20 0) x) ^^^ (-1))) ) rfl rfl g709 g4 g707 g708 hd_X5_many ⟨Nat.le_of_ble_eq_true rfl, Nat.le_of_ble_eq_true rfl⟩ hW hl.1 rfl (Nat.le_of_ble_eq_true rfl) dX5_costWith_88 (Nat.zero_le _) (Nat.zero_le _) (fun H locs hW hS => ?_)
      refine lv_imul hx hb dX5_costWith_91 ?_
      refine lv_iadd hx hb dX5_costWith_92 ?_
      refine lv_aload_n hx hb dX5_costWith_93 rfl (lv_at hl 3 rfl) ?_
      refine w_get X hW 13 0 Nat.zero_lt_one rfl rfl inG5 23 (by decide) g521 rfl dX5_costWith_94 ?_
      refine lv_iload hx hb dX5_costWith_97 (lv_at hl 6 rfl) ?_
      refine w_zaldN (i := a) X hW 43 0 Nat.zero_lt_one rfl (by omega) dX5_costWith_99 ?_
      refine lv_if_eq (tgt := 108) hx hb dX5_costWith_100 (by decide) (fun c_6 => ?_) (fun c_6 => ?_)
      · skip
        refine lv_iconst (v := 0) hx hb dX5_costWith_108 (by decide) ?_
        refine lv_iadd hx hb dX5_costWith_109 ?_
        refine lv_aload_n hx hb dX5_costWith_110 rfl (lv_at hl 3 rfl) ?_
        refine lv_iload_n hx hb dX5_costWith_111 rfl (lv_at hl 5 rfl) ?_
        refine lv_iload hx hb dX5_costWith_112 (lv_at hl 6 rfl) ?_
        refine w_cV1 X hS (m_X5_questionOf l G ad nA nK mA mK E I J q a hs (by first | assumption | omega) (by first | assumption | omega)) rfl rfl g737 g4 g734 g736 p45 hd_X5_questionOf ⟨Nat.le_of_ble_eq_true rfl, Nat.le_of_ble_eq_true rfl⟩ (k_rec X hW 13 0 Nat.zero_lt_one rfl rfl) hW hl.1 rfl (Nat.le_of_ble_eq_true rfl) dX5_costWith_114 (Nat.zero_le _) (Nat.zero_le _) (fun H locs hW hS => ?_)
        refine lv_if_lt (tgt := 124) hx hb dX5_costWith_117 (by decide) (fun c_7 => ?_) (fun c_7 => ?_)
        · skip
          refine lv_iconst (v := 0) hx hb dX5_costWith_124 (by decide) ?_
          refine lv_iadd hx hb dX5_costWith_125 ?_
          refine lv_iload hx hb dX5_costWith_126 (lv_at hl 0 rfl) ?_
          refine lv_isub hx hb dX5_costWith_128 ?_
          exact w_iret X hr hlk hS (by first | rfl | (simp [mCost, mCostF, mClamp, c_1, c_2, c_6, c_7]; done) | (simp [mCost, mCostF, mClamp, c_1, c_2, c_6, c_7]; rfl)) hW dX5_costWith_129
        · skip
          refine lv_iconst (v := 5) hx hb dX5_costWith_120 (by decide) ?_
          refine lv_goto (tgt := 125) hx hb dX5_costWith_121 (by decide) ?_
          refine lv_iadd hx hb dX5_costWith_125 ?_
          refine lv_iload hx hb dX5_costWith_126 (lv_at hl 0 rfl) ?_
          refine lv_isub hx hb dX5_costWith_128 ?_
          exact w_iret X hr hlk hS (by first | rfl | (simp [mCost, mCostF, mClamp, c_1, c_2, c_6, c_7]; done) | (simp [mCost, mCostF, mClamp, c_1, c_2, c_6, c_7]; rfl)) hW dX5_costWith_129
      · skip
        refine lv_bipush (v := 15) hx hb dX5_costWith_103 (by decide) ?_
        refine lv_goto (tgt := 109) hx hb dX5_costWith_105 (by decide) ?_
        refine lv_iadd hx hb dX5_costWith_109 ?_
        refine lv_aload_n hx hb dX5_costWith_110 rfl (lv_at hl 3 rfl) ?_
        refine lv_iload_n hx hb dX5_costWith_111 rfl (lv_at hl 5 rfl) ?_
        refine lv_iload hx hb dX5_costWith_112 (lv_at hl 6 rfl) ?_
        refine w_cV1 X hS (m_X5_questionOf l G ad nA nK mA mK E I J q a hs (by first | assumption | omega) (by first | assumption | omega)) rfl rfl g737 g4 g734 g736 p45 hd_X5_questionOf ⟨Nat.le_of_ble_eq_true rfl, Nat.le_of_ble_eq_true rfl⟩ (k_rec X hW 13 0 Nat.zero_lt_one rfl rfl) hW hl.1 rfl (Nat.le_of_ble_eq_true rfl) dX5_costWith_114 (Nat.zero_le _) (Nat.zero_le _) (fun H locs hW hS => ?_)
        refine lv_if_lt (tgt := 124) hx hb dX5_costWith_117 (by decide) (fun c_8 => ?_) (fun c_8 => ?_)
        · skip
          refine lv_iconst (v := 0) hx hb dX5_costWith_124 (by decide) ?_
          refine lv_iadd hx hb dX5_costWith_125 ?_
          refine lv_iload hx hb dX5_costWith_126 (lv_at hl 0 rfl) ?_
          refine lv_isub hx hb dX5_costWith_128 ?_
          exact w_iret X hr hlk hS (by first | rfl | (simp [mCost, mCostF, mClamp, c_1, c_2, c_6, c_8]; done) | (simp [mCost, mCostF, mClamp, c_1, c_2, c_6, c_8]; rfl)) hW dX5_costWith_129
        · skip
          refine lv_iconst (v := 5) hx hb dX5_costWith_120 (by decide) ?_
          refine lv_goto (tgt := 125) hx hb dX5_costWith_121 (by decide) ?_
          refine lv_iadd hx hb dX5_costWith_125 ?_
          refine lv_iload hx hb dX5_costWith_126 (lv_at hl 0 rfl) ?_
          refine lv_isub hx hb dX5_costWith_128 ?_
          exact w_iret X hr hlk hS (by first | rfl | (simp [mCost, mCostF, mClamp, c_1, c_2, c_6, c_8]; done) | (simp [mCost, mCostF, mClamp, c_1, c_2, c_6, c_8]; rfl)) hW dX5_costWith_129
  · skip
    refine lv_bipush (v := 9) hx hb dX5_costWith_32 (by decide) ?_
    refine lv_goto (tgt := 61) hx hb dX5_costWith_34 (by decide) ?_
    refine lv_istore (lv' := [(9, .int 9), (7, .long (mFold (I 20 0) (J 40 0 a))), (5, .long (mFold (I 20 0) x)), (0, .ref (ad 13 0)), (1, .long (x)), (3, .int (nI q)), (4, .int (nI a))]) hx hb dX5_costWith_61 hl (by decide) rfl (fun ls hl => ?_)
    refine lv_bipush (v := 10) hx hb dX5_costWith_63 (by decide) ?_
    refine lv_lload hx hb dX5_costWith_65 (lv_at hl 2 rfl) ?_
    refine lv_lload hx hb dX5_costWith_67 (lv_at hl 1 rfl) ?_
    refine lv_ldc2 hx hb X.1.2.2.2.1 (hG _ g733) dX5_costWith_69 ?_
    refine lv_lxor hx hb dX5_costWith_72 ?_
    refine lv_land hx hb dX5_costWith_73 ?_
    refine w_cS1 X hS (m_X5_many l G (Wd G ad nA nK I J) ((mFold (I 20 0) x) &&& ((mFold (I 20 0) (J 40 0 a)) ^^^ (-1))) ) rfl rfl g709 g4 g707 g708 hd_X5_many ⟨Nat.le_of_ble_eq_true rfl, Nat.le_of_ble_eq_true rfl⟩ hW hl.1 rfl (Nat.le_of_ble_eq_true rfl) dX5_costWith_74 (Nat.zero_le _) (Nat.zero_le _) (fun H locs hW hS => ?_)
    refine lv_imul hx hb dX5_costWith_77 ?_
    refine lv_iconst (v := 3) hx hb dX5_costWith_78 (by decide) ?_
    refine lv_lload hx hb dX5_costWith_79 (lv_at hl 1 rfl) ?_
    refine lv_lload hx hb dX5_costWith_81 (lv_at hl 2 rfl) ?_
    refine lv_ldc2 hx hb X.1.2.2.2.1 (hG _ g733) dX5_costWith_83 ?_
    refine lv_lxor hx hb dX5_costWith_86 ?_
    refine lv_land hx hb dX5_costWith_87 ?_
    refine w_cS1 X hS (m_X5_many l G (Wd G ad nA nK I J) ((mFold (I 20 0) (J 40 0 a)) &&& ((mFold (I 20 0) x) ^^^ (-1))) ) rfl rfl g709 g4 g707 g708 hd_X5_many ⟨Nat.le_of_ble_eq_true rfl, Nat.le_of_ble_eq_true rfl⟩ hW hl.1 rfl (Nat.le_of_ble_eq_true rfl) dX5_costWith_88 (Nat.zero_le _) (Nat.zero_le _) (fun H locs hW hS => ?_)
    refine lv_imul hx hb dX5_costWith_91 ?_
    refine lv_iadd hx hb dX5_costWith_92 ?_
    refine lv_aload_n hx hb dX5_costWith_93 rfl (lv_at hl 3 rfl) ?_
    refine w_get X hW 13 0 Nat.zero_lt_one rfl rfl inG5 23 (by decide) g521 rfl dX5_costWith_94 ?_
    refine lv_iload hx hb dX5_costWith_97 (lv_at hl 6 rfl) ?_
    refine w_zaldN (i := a) X hW 43 0 Nat.zero_lt_one rfl (by omega) dX5_costWith_99 ?_
    refine lv_if_eq (tgt := 108) hx hb dX5_costWith_100 (by decide) (fun c_9 => ?_) (fun c_9 => ?_)
    · skip
      refine lv_iconst (v := 0) hx hb dX5_costWith_108 (by decide) ?_
      refine lv_iadd hx hb dX5_costWith_109 ?_
      refine lv_aload_n hx hb dX5_costWith_110 rfl (lv_at hl 3 rfl) ?_
      refine lv_iload_n hx hb dX5_costWith_111 rfl (lv_at hl 5 rfl) ?_
      refine lv_iload hx hb dX5_costWith_112 (lv_at hl 6 rfl) ?_
      refine w_cV1 X hS (m_X5_questionOf l G ad nA nK mA mK E I J q a hs (by first | assumption | omega) (by first | assumption | omega)) rfl rfl g737 g4 g734 g736 p45 hd_X5_questionOf ⟨Nat.le_of_ble_eq_true rfl, Nat.le_of_ble_eq_true rfl⟩ (k_rec X hW 13 0 Nat.zero_lt_one rfl rfl) hW hl.1 rfl (Nat.le_of_ble_eq_true rfl) dX5_costWith_114 (Nat.zero_le _) (Nat.zero_le _) (fun H locs hW hS => ?_)
      refine lv_if_lt (tgt := 124) hx hb dX5_costWith_117 (by decide) (fun c_10 => ?_) (fun c_10 => ?_)
      · skip
        refine lv_iconst (v := 0) hx hb dX5_costWith_124 (by decide) ?_
        refine lv_iadd hx hb dX5_costWith_125 ?_
        refine lv_iload hx hb dX5_costWith_126 (lv_at hl 0 rfl) ?_
        refine lv_isub hx hb dX5_costWith_128 ?_
        exact w_iret X hr hlk hS (by first | rfl | (simp [mCost, mCostF, mClamp, c_1, c_9, c_10]; done) | (simp [mCost, mCostF, mClamp, c_1, c_9, c_10]; rfl)) hW dX5_costWith_129
      · skip
        refine lv_iconst (v := 5) hx hb dX5_costWith_120 (by decide) ?_
        refine lv_goto (tgt := 125) hx hb dX5_costWith_121 (by decide) ?_
        refine lv_iadd hx hb dX5_costWith_125 ?_
        refine lv_iload hx hb dX5_costWith_126 (lv_at hl 0 rfl) ?_
        refine lv_isub hx hb dX5_costWith_128 ?_
        exact w_iret X hr hlk hS (by first | rfl | (simp [mCost, mCostF, mClamp, c_1, c_9, c_10]; done) | (simp [mCost, mCostF, mClamp, c_1, c_9, c_10]; rfl)) hW dX5_costWith_129
    · skip
      refine lv_bipush (v := 15) hx hb dX5_costWith_103 (by decide) ?_
      refine lv_goto (tgt := 109) hx hb dX5_costWith_105 (by decide) ?_
      refine lv_iadd hx hb dX5_costWith_109 ?_
      refine lv_aload_n hx hb dX5_costWith_110 rfl (lv_at hl 3 rfl) ?_
      refine lv_iload_n hx hb dX5_costWith_111 rfl (lv_at hl 5 rfl) ?_
      refine lv_iload hx hb dX5_costWith_112 (lv_at hl 6 rfl) ?_
      refine w_cV1 X hS (m_X5_questionOf l G ad nA nK mA mK E I J q a hs (by first | assumption | omega) (by first | assumption | omega)) rfl rfl g737 g4 g734 g736 p45 hd_X5_questionOf ⟨Nat.le_of_ble_eq_true rfl, Nat.le_of_ble_eq_true rfl⟩ (k_rec X hW 13 0 Nat.zero_lt_one rfl rfl) hW hl.1 rfl (Nat.le_of_ble_eq_true rfl) dX5_costWith_114 (Nat.zero_le _) (Nat.zero_le _) (fun H locs hW hS => ?_)
      refine lv_if_lt (tgt := 124) hx hb dX5_costWith_117 (by decide) (fun c_11 => ?_) (fun c_11 => ?_)
      · skip
        refine lv_iconst (v := 0) hx hb dX5_costWith_124 (by decide) ?_
        refine lv_iadd hx hb dX5_costWith_125 ?_
        refine lv_iload hx hb dX5_costWith_126 (lv_at hl 0 rfl) ?_
        refine lv_isub hx hb dX5_costWith_128 ?_
        exact w_iret X hr hlk hS (by first | rfl | (simp [mCost, mCostF, mClamp, c_1, c_9, c_11]; done) | (simp [mCost, mCostF, mClamp, c_1, c_9, c_11]; rfl)) hW dX5_costWith_129
      · skip
        refine lv_iconst (v := 5) hx hb dX5_costWith_120 (by decide) ?_
        refine lv_goto (tgt := 125) hx hb dX5_costWith_121 (by decide) ?_
        refine lv_iadd hx hb dX5_costWith_125 ?_
        refine lv_iload hx hb dX5_costWith_126 (lv_at hl 0 rfl) ?_
        refine lv_isub hx hb dX5_costWith_128 ?_
        exact w_iret X hr hlk hS (by first | rfl | (simp [mCost, mCostF, mClamp, c_1, c_9, c_11]; done) | (simp [mCost, mCostF, mClamp, c_1, c_9, c_11]; rfl)) hW dX5_costWith_129
set_option maxHeartbeats 4000000 in
set_option maxRecDepth 100000 in
theorem m_X5_findsWith (l : Launch) (G : k_G) (ad : Nat → Nat → Nat) (nA nK : Nat) (mA mK : Nat) (E : Nat → Nat) (I : k_I) (J : k_J) (x : Int64) (q : Nat) (hs : m_S mA mK E I) (hq : q < mK) : k_Met l yX5_findsWith cX5_findsWith 6 (some FieldType.int) { frames := 3, cells := 0, slots := 0, locals := 72 } G [.ref (ad 13 0), .long (x), .int (nI q)] (Wd G ad nA nK I J) (some (.int (mFinds mA I J x q))) (Wd G ad nA nK I J) 0 0 := by
  refine k_body (by decide) (Nat.le_of_ble_eq_true rfl) ?_
  intro p e s m below meth c ls X hr hlk hnm hW hS hl
  have hx := X.1.1
  have hb := X.1.2.1
  have hG := X.1.2.2.2.2
  have hA24 := hs.2.2.1
  have hK30 := hs.2.2.2.1
  have hl : lv_has ls 6 [(0, .ref (ad 13 0)), (1, .long (x)), (3, .int (nI q))] := hl
  refine lv_iconst (v := 0) hx hb dX5_findsWith_0 (by decide) ?_
  refine lv_istore (lv' := [(4, .int 0), (0, .ref (ad 13 0)), (1, .long (x)), (3, .int (nI q))]) hx hb dX5_findsWith_1 hl (by decide) rfl (fun ls hl => ?_)
  refine lv_iconst (v := 0) hx hb dX5_findsWith_3 (by decide) ?_
  refine lv_istore (lv' := [(5, .int 0), (4, .int 0), (0, .ref (ad 13 0)), (1, .long (x)), (3, .int (nI q))]) hx hb dX5_findsWith_4 hl (by decide) rfl (fun ls hl => ?_)
  have loop6 : ∀ (d a : Nat) (n : Int32), a + d = mA → (kLoop (mFin1 I J x q) d a n = mFinds mA I J x q) → ∀ (H : Heap) (locs : List Loc), Wd G ad nA nK I J H → va_S (k_A G) s.heap H locs → ∀ ls : Array Slot, lv_has ls 6 [(5, .int (nI a)), (4, .int n), (0, .ref (ad 13 0)), (1, .long (x)), (3, .int (nI q))] → W p l e { frames := 3, cells := 0, slots := 0, locals := 72 } s m ([.ref (ad 13 0), .long (x), .int (nI q)] : List Value).toArray below meth c H locs 0 0 (MQ below (k_Q G (some (.int (mFinds mA I J x q))) (Wd G ad nA nK I J)) ([.ref (ad 13 0), .long (x), .int (nI q)] : List Value).toArray s 0 0 (k_A G)) (F0 m 6 ls []) := by
    intro d
    induction d with
    | zero =>
      intro a n hi6 hz6  H locs hW hS ls hl
      refine lv_iload hx hb dX5_findsWith_6 (lv_at hl 0 rfl) ?_
      refine lv_aload_n hx hb dX5_findsWith_8 rfl (lv_at hl 2 rfl) ?_
      refine w_get (v := .int (nI mA)) X hW 13 0 Nat.zero_lt_one rfl rfl inG5 6 (by decide) g504 (congrArg (fun z => some (Value.int z)) hs.1) dX5_findsWith_9 ?_
      refine lv_icmp_ge (tgt := 56) hx hb dX5_findsWith_12 (by decide) (fun _ => ?_) (fun c_1 => absurd (nI_le (a := mA) (b := a) (by omega) (by omega)) c_1)
      refine lv_iload hx hb dX5_findsWith_56 (lv_at hl 1 rfl) ?_
      exact w_iret X hr hlk hS (by first | exact hz6 | (rw [← hz6]; simp [kLoop, mFin1]; done) | (simp [← hz6, kLoop, mFin1]; done) | (rw [← hz6]; simp only [kLoop, mFin1, eq_self, if_true, if_false, Bool.false_eq_true, decide_true, decide_false, Bool.not_true, Bool.not_false, Bool.false_or, Bool.true_or, Bool.and_true, Bool.true_and, Bool.false_and, Bool.and_false, Bool.or_true, Bool.or_false]; done) | (simp [kLoop, mFin1]; done)) hW dX5_findsWith_58
    | succ d ih =>
      intro a n hi6 hz6  H locs hW hS ls hl
      have hlt6 : a < mA := by omega
      have ih6 := ih
      refine lv_iload hx hb dX5_findsWith_6 (lv_at hl 0 rfl) ?_
      refine lv_aload_n hx hb dX5_findsWith_8 rfl (lv_at hl 2 rfl) ?_
      refine w_get (v := .int (nI mA)) X hW 13 0 Nat.zero_lt_one rfl rfl inG5 6 (by decide) g504 (congrArg (fun z => some (Value.int z)) hs.1) dX5_findsWith_9 ?_
      refine lv_icmp_ge (tgt := 56) hx hb dX5_findsWith_12 (by decide) (fun c_2 => absurd c_2 (nI_ge (a := a) (b := mA) (by omega) (by omega))) (fun _ => ?_)
      refine lv_iload hx hb dX5_findsWith_15 (lv_at hl 1 rfl) ?_
      refine lv_aload_n hx hb dX5_findsWith_17 rfl (lv_at hl 2 rfl) ?_
      refine lv_iload_n hx hb dX5_findsWith_18 rfl (lv_at hl 4 rfl) ?_
      refine lv_iload hx hb dX5_findsWith_19 (lv_at hl 0 rfl) ?_
      refine w_cV1 X hS (m_X5_isFit l G ad nA nK mA mK E I J q a hs (by first | assumption | omega) (by first | assumption | omega)) rfl rfl g728 g4 g725 g727 p43 hd_X5_isFit ⟨Nat.le_of_ble_eq_true rfl, Nat.le_of_ble_eq_true rfl⟩ (k_rec X hW 13 0 Nat.zero_lt_one rfl rfl) hW hl.1 rfl (Nat.le_of_ble_eq_true rfl) dX5_findsWith_21 (Nat.zero_le _) (Nat.zero_le _) (fun H locs hW hS => ?_)
      refine lb_if_eq (tgt := 46) hx hb dX5_findsWith_24 (by decide) (fun c_3 => ?_) (fun c_3 => ?_)
      · skip
        refine lv_iconst (v := 0) hx hb dX5_findsWith_46 (by decide) ?_
        refine lv_iadd hx hb dX5_findsWith_47 ?_
        refine lv_istore (lv' := [(4, .int (n + 0)), (5, .int (nI a)), (0, .ref (ad 13 0)), (1, .long (x)), (3, .int (nI q))]) hx hb dX5_findsWith_48 hl (by decide) rfl (fun ls hl => ?_)
        refine lv_iinc (v := nI (a + 1)) (lv' := [(5, .int (nI (a + 1))), (4, .int (n + 0)), (0, .ref (ad 13 0)), (1, .long (x)), (3, .int (nI q))]) hx hb dX5_findsWith_50 hl (k := 1) rfl (nI_1 a) (by decide) rfl (fun ls hl => ?_)
        refine lv_goto (tgt := 6) hx hb dX5_findsWith_53 (by decide) ?_
        exact ih6 (a + 1) (n + 0) (by omega) (by first | exact hz6 | (rw [← hz6]; simp [kLoop, mFin1, c_3]; done) | (simp [← hz6, kLoop, mFin1, c_3]; done) | (rw [← hz6]; simp only [kLoop, mFin1, c_3, eq_self, if_true, if_false, Bool.false_eq_true, decide_true, decide_false, Bool.not_true, Bool.not_false, Bool.false_or, Bool.true_or, Bool.and_true, Bool.true_and, Bool.false_and, Bool.and_false, Bool.or_true, Bool.or_false]; done)) _ _ hW hS ls (lv_sub hl [0, 1, 2, 3, 4] rfl)
      · skip
        refine lv_aload_n hx hb dX5_findsWith_27 rfl (lv_at hl 2 rfl) ?_
        refine lv_lload_n hx hb dX5_findsWith_28 rfl (lv_at hl 3 rfl) ?_
        refine lv_iload_n hx hb dX5_findsWith_29 rfl (lv_at hl 4 rfl) ?_
        refine lv_iload hx hb dX5_findsWith_30 (lv_at hl 0 rfl) ?_
        refine w_cV1 X hS (m_X5_costWith l G ad nA nK mA mK E I J x q a hs (by first | assumption | omega) (by first | assumption | omega)) rfl rfl g732 g4 g729 g731 p44 hd_X5_costWith ⟨Nat.le_of_ble_eq_true rfl, Nat.le_of_ble_eq_true rfl⟩ (k_rec X hW 13 0 Nat.zero_lt_one rfl rfl) hW hl.1 rfl (Nat.le_of_ble_eq_true rfl) dX5_findsWith_32 (Nat.zero_le _) (Nat.zero_le _) (fun H locs hW hS => ?_)
        refine lv_aload_n hx hb dX5_findsWith_35 rfl (lv_at hl 2 rfl) ?_
        refine w_get X hW 13 0 Nat.zero_lt_one rfl rfl inG5 5 (by decide) g503 rfl dX5_findsWith_36 ?_
        refine lv_icmp_gt (tgt := 46) hx hb dX5_findsWith_39 (by decide) (fun c_4 => ?_) (fun c_4 => ?_)
        · skip
          refine lv_iconst (v := 0) hx hb dX5_findsWith_46 (by decide) ?_
          refine lv_iadd hx hb dX5_findsWith_47 ?_
          refine lv_istore (lv' := [(4, .int (n + 0)), (5, .int (nI a)), (0, .ref (ad 13 0)), (1, .long (x)), (3, .int (nI q))]) hx hb dX5_findsWith_48 hl (by decide) rfl (fun ls hl => ?_)
          refine lv_iinc (v := nI (a + 1)) (lv' := [(5, .int (nI (a + 1))), (4, .int (n + 0)), (0, .ref (ad 13 0)), (1, .long (x)), (3, .int (nI q))]) hx hb dX5_findsWith_50 hl (k := 1) rfl (nI_1 a) (by decide) rfl (fun ls hl => ?_)
          refine lv_goto (tgt := 6) hx hb dX5_findsWith_53 (by decide) ?_
          exact ih6 (a + 1) (n + 0) (by omega) (by first | exact hz6 | (rw [← hz6]; simp [kLoop, mFin1, c_3, c_4]; done) | (simp [← hz6, kLoop, mFin1, c_3, c_4]; done) | (rw [← hz6]; simp only [kLoop, mFin1, c_3, c_4, eq_self, if_true, if_false, Bool.false_eq_true, decide_true, decide_false, Bool.not_true, Bool.not_false, Bool.false_or, Bool.true_or, Bool.and_true, Bool.true_and, Bool.false_and, Bool.and_false, Bool.or_true, Bool.or_false]; done)) _ _ hW hS ls (lv_sub hl [0, 1, 2, 3, 4] rfl)
        · skip
          refine lv_iconst (v := 1) hx hb dX5_findsWith_42 (by decide) ?_
          refine lv_goto (tgt := 47) hx hb dX5_findsWith_43 (by decide) ?_
          refine lv_iadd hx hb dX5_findsWith_47 ?_
          refine lv_istore (lv' := [(4, .int (n + 1)), (5, .int (nI a)), (0, .ref (ad 13 0)), (1, .long (x)), (3, .int (nI q))]) hx hb dX5_findsWith_48 hl (by decide) rfl (fun ls hl => ?_)
          refine lv_iinc (v := nI (a + 1)) (lv' := [(5, .int (nI (a + 1))), (4, .int (n + 1)), (0, .ref (ad 13 0)), (1, .long (x)), (3, .int (nI q))]) hx hb dX5_findsWith_50 hl (k := 1) rfl (nI_1 a) (by decide) rfl (fun ls hl => ?_)
          refine lv_goto (tgt := 6) hx hb dX5_findsWith_53 (by decide) ?_
          exact ih6 (a + 1) (n + 1) (by omega) (by first | exact hz6 | (rw [← hz6]; simp [kLoop, mFin1, c_3, c_4]; done) | (simp [← hz6, kLoop, mFin1, c_3, c_4]; done) | (rw [← hz6]; simp only [kLoop, mFin1, c_3, c_4, eq_self, if_true, if_false, Bool.false_eq_true, decide_true, decide_false, Bool.not_true, Bool.not_false, Bool.false_or, Bool.true_or, Bool.and_true, Bool.true_and, Bool.false_and, Bool.and_false, Bool.or_true, Bool.or_false]; done)) _ _ hW hS ls (lv_sub hl [0, 1, 2, 3, 4] rfl)
  exact loop6 mA 0 0 (by omega) rfl _ _ hW hS ls (lv_sub hl [0, 1, 2, 3, 4] rfl)
set_option maxHeartbeats 4000000 in
set_option maxRecDepth 100000 in
theorem m_X5_quarrels (l : Launch) (G : k_G) (ad : Nat → Nat → Nat) (nA nK : Nat) (mA mK : Nat) (E : Nat → Nat) (I : k_I) (J : k_J) (a : Nat) (b : Nat) (hs : m_S mA mK E I) (ha : a < mA) (hb : b < mA) : k_Met l yX5_quarrels cX5_quarrels 5 (some FieldType.boolean) { frames := 2, cells := 0, slots := 0, locals := 49 } G [.ref (ad 13 0), .int (nI a), .int (nI b)] (Wd G ad nA nK I J) (some (.int (k_b (mQuar I J a b)))) (Wd G ad nA nK I J) 0 0 := by
  refine k_body (by decide) (Nat.le_of_ble_eq_true rfl) ?_
  intro p e s m below meth c ls X hr hlk hnm hW hS hl
  have hx := X.1.1
  have hb := X.1.2.1
  have hG := X.1.2.2.2.2
  have hA24 := hs.2.2.1
  have hK30 := hs.2.2.2.1
  have hl : lv_has ls 5 [(0, .ref (ad 13 0)), (1, .int (nI a)), (2, .int (nI b))] := hl
  have join60 : ∀ (r0 : Bool), (r0 = mQuar0 I J a b) → ∀ (H : Heap) (locs : List Loc), Wd G ad nA nK I J H → va_S (k_A G) s.heap H locs → ∀ ls : Array Slot, lv_has ls 5 [(3, .int (k_b r0)), (0, .ref (ad 13 0)), (1, .int (nI a)), (2, .int (nI b))] → W p l e { frames := 2, cells := 0, slots := 0, locals := 49 } s m ([.ref (ad 13 0), .int (nI a), .int (nI b)] : List Value).toArray below meth c H locs 0 0 (MQ below (k_Q G (some (.int (k_b (mQuar I J a b)))) (Wd G ad nA nK I J)) ([.ref (ad 13 0), .int (nI a), .int (nI b)] : List Value).toArray s 0 0 (k_A G)) (F0 m 60 ls []) := by
    intro r0 hr0 H locs hW hS ls hl
    refine lv_iconst (v := 0) hx hb dX5_quarrels_60 (by decide) ?_
    refine lv_istore (lv' := [(4, .int 0), (3, .int (k_b r0)), (0, .ref (ad 13 0)), (1, .int (nI a)), (2, .int (nI b))]) hx hb dX5_quarrels_61 hl (by decide) rfl (fun ls hl => ?_)
    have loop63 : ∀ (d k : Nat) (r : Bool), k + d = 3 → (kLoop (mQuar1 I a b) d k r = mQuar I J a b) → ∀ (H : Heap) (locs : List Loc), Wd G ad nA nK I J H → va_S (k_A G) s.heap H locs → ∀ ls : Array Slot, lv_has ls 5 [(4, .int (nI k)), (3, .int (k_b r)), (0, .ref (ad 13 0)), (1, .int (nI a)), (2, .int (nI b))] → W p l e { frames := 2, cells := 0, slots := 0, locals := 49 } s m ([.ref (ad 13 0), .int (nI a), .int (nI b)] : List Value).toArray below meth c H locs 0 0 (MQ below (k_Q G (some (.int (k_b (mQuar I J a b)))) (Wd G ad nA nK I J)) ([.ref (ad 13 0), .int (nI a), .int (nI b)] : List Value).toArray s 0 0 (k_A G)) (F0 m 63 ls []) := by
      intro d
      induction d with
      | zero =>
        intro k r hi63 hz63  H locs hW hS ls hl
        refine lv_iload hx hb dX5_quarrels_63 (lv_at hl 0 rfl) ?_
        refine lv_iconst (v := 3) hx hb dX5_quarrels_65 (by decide) ?_
        refine lv_icmp_ge (tgt := 111) hx hb dX5_quarrels_66 (by decide) (fun _ => ?_) (fun c_1 => absurd (nI_le (a := 3) (b := k) (by omega) (by omega)) c_1)
        refine lv_iload_n hx hb dX5_quarrels_111 rfl (lv_at hl 1 rfl) ?_
        exact w_zret X hr hlk hS (by first | exact hz63 | (rw [← hz63]; simp [kLoop, mQuar1, hr0]; done) | (simp [← hz63, kLoop, mQuar1, hr0]; done) | (rw [← hz63]; simp only [kLoop, mQuar1, hr0, eq_self, if_true, if_false, Bool.false_eq_true, decide_true, decide_false, Bool.not_true, Bool.not_false, Bool.false_or, Bool.true_or, Bool.and_true, Bool.true_and, Bool.false_and, Bool.and_false, Bool.or_true, Bool.or_false]; done) | (simp [kLoop, mQuar1, hr0]; done)) (k_b_n _) hW dX5_quarrels_112
      | succ d ih =>
        intro k r hi63 hz63  H locs hW hS ls hl
        have hlt63 : k < 3 := by omega
        have ih63 := ih
        refine lv_iload hx hb dX5_quarrels_63 (lv_at hl 0 rfl) ?_
        refine lv_iconst (v := 3) hx hb dX5_quarrels_65 (by decide) ?_
        refine lv_icmp_ge (tgt := 111) hx hb dX5_quarrels_66 (by decide) (fun c_2 => absurd c_2 (nI_ge (a := k) (b := 3) (by omega) (by omega))) (fun _ => ?_)
        refine lv_iload_n hx hb dX5_quarrels_69 rfl (lv_at hl 1 rfl) ?_
        refine lb_if_eq (tgt := 103) hx hb dX5_quarrels_70 (by decide) (fun c_3 => ?_) (fun c_3 => ?_)
        · skip
          refine lv_iconst (v := 0) hx hb dX5_quarrels_103 (by decide) ?_
          refine lv_istore_n (lv' := [(3, .int 0), (4, .int (nI k)), (0, .ref (ad 13 0)), (1, .int (nI a)), (2, .int (nI b))]) hx hb dX5_quarrels_104 rfl hl (by decide) rfl (fun ls hl => ?_)
          refine lv_iinc (v := nI (k + 1)) (lv' := [(4, .int (nI (k + 1))), (3, .int 0), (0, .ref (ad 13 0)), (1, .int (nI a)), (2, .int (nI b))]) hx hb dX5_quarrels_105 hl (k := 1) rfl (nI_1 k) (by decide) rfl (fun ls hl => ?_)
          refine lv_goto (tgt := 63) hx hb dX5_quarrels_108 (by decide) ?_
          exact ih63 (k + 1) false (by omega) (by first | exact hz63 | (rw [← hz63]; simp [kLoop, mQuar1, hr0, c_3]; done) | (simp [← hz63, kLoop, mQuar1, hr0, c_3]; done) | (rw [← hz63]; simp only [kLoop, mQuar1, hr0, c_3, eq_self, if_true, if_false, Bool.false_eq_true, decide_true, decide_false, Bool.not_true, Bool.not_false, Bool.false_or, Bool.true_or, Bool.and_true, Bool.true_and, Bool.false_and, Bool.and_false, Bool.or_true, Bool.or_false]; done)) _ _ hW hS ls (lv_sub hl [0, 1, 2, 3, 4] rfl)
        · skip
          refine lv_aload_n hx hb dX5_quarrels_73 rfl (lv_at hl 2 rfl) ?_
          refine w_get X hW 13 0 Nat.zero_lt_one rfl rfl inG5 11 (by decide) g509 rfl dX5_quarrels_74 ?_
          refine lv_iconst (v := 3) hx hb dX5_quarrels_77 (by decide) ?_
          refine lv_iload_n hx hb dX5_quarrels_78 rfl (lv_at hl 3 rfl) ?_
          refine lw_imulN (a := 3) (b := a) hx hb dX5_quarrels_79 ?_
          refine lv_iload hx hb dX5_quarrels_80 (lv_at hl 0 rfl) ?_
          refine lw_iaddN (a := 3 * a) (b := k) hx hb dX5_quarrels_82 ?_
          refine w_ialdN (i := 3 * a + k) X hW 31 0 Nat.zero_lt_one rfl (by omega) dX5_quarrels_83 ?_
          refine lv_aload_n hx hb dX5_quarrels_84 rfl (lv_at hl 2 rfl) ?_
          refine w_get X hW 13 0 Nat.zero_lt_one rfl rfl inG5 11 (by decide) g509 rfl dX5_quarrels_85 ?_
          refine lv_iconst (v := 3) hx hb dX5_quarrels_88 (by decide) ?_
          refine lv_iload_n hx hb dX5_quarrels_89 rfl (lv_at hl 4 rfl) ?_
          refine lw_imulN (a := 3) (b := b) hx hb dX5_quarrels_90 ?_
          refine lv_iload hx hb dX5_quarrels_91 (lv_at hl 0 rfl) ?_
          refine lw_iaddN (a := 3 * b) (b := k) hx hb dX5_quarrels_93 ?_
          refine w_ialdN (i := 3 * b + k) X hW 31 0 Nat.zero_lt_one rfl (by omega) dX5_quarrels_94 ?_
          refine lv_iand hx hb dX5_quarrels_95 ?_
          refine lv_if_eq (tgt := 103) hx hb dX5_quarrels_96 (by decide) (fun c_4 => ?_) (fun c_4 => ?_)
          · skip
            refine lv_iconst (v := 0) hx hb dX5_quarrels_103 (by decide) ?_
            refine lv_istore_n (lv' := [(3, .int 0), (4, .int (nI k)), (0, .ref (ad 13 0)), (1, .int (nI a)), (2, .int (nI b))]) hx hb dX5_quarrels_104 rfl hl (by decide) rfl (fun ls hl => ?_)
            refine lv_iinc (v := nI (k + 1)) (lv' := [(4, .int (nI (k + 1))), (3, .int 0), (0, .ref (ad 13 0)), (1, .int (nI a)), (2, .int (nI b))]) hx hb dX5_quarrels_105 hl (k := 1) rfl (nI_1 k) (by decide) rfl (fun ls hl => ?_)
            refine lv_goto (tgt := 63) hx hb dX5_quarrels_108 (by decide) ?_
            exact ih63 (k + 1) false (by omega) (by first | exact hz63 | (rw [← hz63]; simp [kLoop, mQuar1, hr0, c_3, c_4]; done) | (simp [← hz63, kLoop, mQuar1, hr0, c_3, c_4]; done) | (rw [← hz63]; simp only [kLoop, mQuar1, hr0, c_3, c_4, eq_self, if_true, if_false, Bool.false_eq_true, decide_true, decide_false, Bool.not_true, Bool.not_false, Bool.false_or, Bool.true_or, Bool.and_true, Bool.true_and, Bool.false_and, Bool.and_false, Bool.or_true, Bool.or_false]; done)) _ _ hW hS ls (lv_sub hl [0, 1, 2, 3, 4] rfl)
          · skip
            refine lv_iconst (v := 1) hx hb dX5_quarrels_99 (by decide) ?_
            refine lv_goto (tgt := 104) hx hb dX5_quarrels_100 (by decide) ?_
            refine lv_istore_n (lv' := [(3, .int 1), (4, .int (nI k)), (0, .ref (ad 13 0)), (1, .int (nI a)), (2, .int (nI b))]) hx hb dX5_quarrels_104 rfl hl (by decide) rfl (fun ls hl => ?_)
            refine lv_iinc (v := nI (k + 1)) (lv' := [(4, .int (nI (k + 1))), (3, .int 1), (0, .ref (ad 13 0)), (1, .int (nI a)), (2, .int (nI b))]) hx hb dX5_quarrels_105 hl (k := 1) rfl (nI_1 k) (by decide) rfl (fun ls hl => ?_)
            refine lv_goto (tgt := 63) hx hb dX5_quarrels_108 (by decide) ?_
            exact ih63 (k + 1) true (by omega) (by first | exact hz63 | (rw [← hz63]; simp [kLoop, mQuar1, hr0, c_3, c_4]; done) | (simp [← hz63, kLoop, mQuar1, hr0, c_3, c_4]; done) | (rw [← hz63]; simp only [kLoop, mQuar1, hr0, c_3, c_4, eq_self, if_true, if_false, Bool.false_eq_true, decide_true, decide_false, Bool.not_true, Bool.not_false, Bool.false_or, Bool.true_or, Bool.and_true, Bool.true_and, Bool.false_and, Bool.and_false, Bool.or_true, Bool.or_false]; done)) _ _ hW hS ls (lv_sub hl [0, 1, 2, 3, 4] rfl)
    exact loop63 3 0 r0 (by omega) (by rw [hr0]; rfl) _ _ hW hS ls (lv_sub hl [0, 1, 2, 3, 4] rfl)
  refine lv_aload_n hx hb dX5_quarrels_0 rfl (lv_at hl 0 rfl) ?_
  refine lv_iload_n hx hb dX5_quarrels_1 rfl (lv_at hl 1 rfl) ?_
  refine w_cV1 X hS (m_X5_isPlain l G ad nA nK mA mK E I J a hs (by first | assumption | omega)) rfl rfl g619 g4 g616 g618 p31 hd_X5_isPlain ⟨Nat.le_of_ble_eq_true rfl, Nat.le_of_ble_eq_true rfl⟩ (k_rec X hW 13 0 Nat.zero_lt_one rfl rfl) hW hl.1 rfl (Nat.le_of_ble_eq_true rfl) dX5_quarrels_2 (Nat.zero_le _) (Nat.zero_le _) (fun H locs hW hS => ?_)
  refine lb_if_eq (tgt := 58) hx hb dX5_quarrels_5 (by decide) (fun c_5 => ?_) (fun c_5 => ?_)
  · skip
    refine lv_iconst (v := 0) hx hb dX5_quarrels_58 (by decide) ?_
    refine lv_istore_n (lv' := [(3, .int 0), (0, .ref (ad 13 0)), (1, .int (nI a)), (2, .int (nI b))]) hx hb dX5_quarrels_59 rfl hl (by decide) rfl (fun ls hl => ?_)
    exact join60 false (by simp [mQuar0, c_5]) _ _ hW hS ls (lv_sub hl [0, 1, 2, 3] rfl)
  · skip
    refine lv_aload_n hx hb dX5_quarrels_8 rfl (lv_at hl 0 rfl) ?_
    refine lv_iload_n hx hb dX5_quarrels_9 rfl (lv_at hl 2 rfl) ?_
    refine w_cV1 X hS (m_X5_isPlain l G ad nA nK mA mK E I J b hs (by first | assumption | omega)) rfl rfl g619 g4 g616 g618 p31 hd_X5_isPlain ⟨Nat.le_of_ble_eq_true rfl, Nat.le_of_ble_eq_true rfl⟩ (k_rec X hW 13 0 Nat.zero_lt_one rfl rfl) hW hl.1 rfl (Nat.le_of_ble_eq_true rfl) dX5_quarrels_10 (Nat.zero_le _) (Nat.zero_le _) (fun H locs hW hS => ?_)
    refine lb_if_eq (tgt := 58) hx hb dX5_quarrels_13 (by decide) (fun c_6 => ?_) (fun c_6 => ?_)
    · skip
      refine lv_iconst (v := 0) hx hb dX5_quarrels_58 (by decide) ?_
      refine lv_istore_n (lv' := [(3, .int 0), (0, .ref (ad 13 0)), (1, .int (nI a)), (2, .int (nI b))]) hx hb dX5_quarrels_59 rfl hl (by decide) rfl (fun ls hl => ?_)
      exact join60 false (by simp [mQuar0, c_5, c_6]) _ _ hW hS ls (lv_sub hl [0, 1, 2, 3] rfl)
    · skip
      refine lv_aload_n hx hb dX5_quarrels_16 rfl (lv_at hl 0 rfl) ?_
      refine w_get X hW 13 0 Nat.zero_lt_one rfl rfl inG5 10 (by decide) g508 rfl dX5_quarrels_17 ?_
      refine lv_iload_n hx hb dX5_quarrels_20 rfl (lv_at hl 1 rfl) ?_
      refine w_ialdN (i := a) X hW 30 0 Nat.zero_lt_one rfl (by omega) dX5_quarrels_21 ?_
      refine lv_aload_n hx hb dX5_quarrels_22 rfl (lv_at hl 0 rfl) ?_
      refine w_get X hW 13 0 Nat.zero_lt_one rfl rfl inG5 10 (by decide) g508 rfl dX5_quarrels_23 ?_
      refine lv_iload_n hx hb dX5_quarrels_26 rfl (lv_at hl 2 rfl) ?_
      refine w_ialdN (i := b) X hW 30 0 Nat.zero_lt_one rfl (by omega) dX5_quarrels_27 ?_
      refine lv_icmp_eq (tgt := 58) hx hb dX5_quarrels_28 (by decide) (fun c_7 => ?_) (fun c_7 => ?_)
      · skip
        refine lv_iconst (v := 0) hx hb dX5_quarrels_58 (by decide) ?_
        refine lv_istore_n (lv' := [(3, .int 0), (0, .ref (ad 13 0)), (1, .int (nI a)), (2, .int (nI b))]) hx hb dX5_quarrels_59 rfl hl (by decide) rfl (fun ls hl => ?_)
        exact join60 false (by simp [mQuar0, c_5, c_6, c_7]) _ _ hW hS ls (lv_sub hl [0, 1, 2, 3] rfl)
      · skip
        refine lv_aload_n hx hb dX5_quarrels_31 rfl (lv_at hl 0 rfl) ?_
        refine lv_aload_n hx hb dX5_quarrels_32 rfl (lv_at hl 0 rfl) ?_
        refine w_get X hW 13 0 Nat.zero_lt_one rfl rfl inG5 9 (by decide) g507 rfl dX5_quarrels_33 ?_
        refine lv_iload_n hx hb dX5_quarrels_36 rfl (lv_at hl 1 rfl) ?_
        refine w_laldN (i := a) X hW 29 0 Nat.zero_lt_one rfl (by omega) dX5_quarrels_37 ?_
        refine lv_aload_n hx hb dX5_quarrels_38 rfl (lv_at hl 0 rfl) ?_
        refine w_get X hW 13 0 Nat.zero_lt_one rfl rfl inG5 9 (by decide) g507 rfl dX5_quarrels_39 ?_
        refine lv_iload_n hx hb dX5_quarrels_42 rfl (lv_at hl 2 rfl) ?_
        refine w_laldN (i := b) X hW 29 0 Nat.zero_lt_one rfl (by omega) dX5_quarrels_43 ?_
        refine w_cV1 X hS (m_X5_far l G ad nA nK mA mK E I J (J 29 0 a) (J 29 0 b) ) rfl rfl g702 g4 g699 g701 p40 hd_X5_far ⟨Nat.le_of_ble_eq_true rfl, Nat.le_of_ble_eq_true rfl⟩ (k_rec X hW 13 0 Nat.zero_lt_one rfl rfl) hW hl.1 rfl (Nat.le_of_ble_eq_true rfl) dX5_quarrels_44 (Nat.zero_le _) (Nat.zero_le _) (fun H locs hW hS => ?_)
        refine lv_aload_n hx hb dX5_quarrels_47 rfl (lv_at hl 0 rfl) ?_
        refine w_get X hW 13 0 Nat.zero_lt_one rfl rfl inG5 4 (by decide) g502 rfl dX5_quarrels_48 ?_
        refine lv_icmp_gt (tgt := 58) hx hb dX5_quarrels_51 (by decide) (fun c_8 => ?_) (fun c_8 => ?_)
        · skip
          refine lv_iconst (v := 0) hx hb dX5_quarrels_58 (by decide) ?_
          refine lv_istore_n (lv' := [(3, .int 0), (0, .ref (ad 13 0)), (1, .int (nI a)), (2, .int (nI b))]) hx hb dX5_quarrels_59 rfl hl (by decide) rfl (fun ls hl => ?_)
          exact join60 false (by simp [mQuar0, c_5, c_6, c_7, c_8]) _ _ hW hS ls (lv_sub hl [0, 1, 2, 3] rfl)
        · skip
          refine lv_iconst (v := 1) hx hb dX5_quarrels_54 (by decide) ?_
          refine lv_goto (tgt := 59) hx hb dX5_quarrels_55 (by decide) ?_
          refine lv_istore_n (lv' := [(3, .int 1), (0, .ref (ad 13 0)), (1, .int (nI a)), (2, .int (nI b))]) hx hb dX5_quarrels_59 rfl hl (by decide) rfl (fun ls hl => ?_)
          exact join60 true (by simp [mQuar0, c_5, c_6, c_7, c_8]) _ _ hW hS ls (lv_sub hl [0, 1, 2, 3] rfl)
set_option maxHeartbeats 4000000 in
set_option maxRecDepth 100000 in
theorem m_X5_quarrel (l : Launch) (G : k_G) (ad : Nat → Nat → Nat) (nA nK : Nat) (mA mK : Nat) (E : Nat → Nat) (I : k_I) (J : k_J) (k : Int32) (w : Int32) (hs : m_S mA mK E I) : k_Met l yX5_quarrel cX5_quarrel 6 (some FieldType.int) { frames := 3, cells := 0, slots := 0, locals := 73 } G [.ref (ad 13 0), .int k, .int w] (Wd G ad nA nK I J) (some (.int (mcQuarrel mA I J k w))) (Wd G ad nA nK I J) 0 0 := by
  refine k_body (by decide) (Nat.le_of_ble_eq_true rfl) ?_
  intro p e s m below meth c ls X hr hlk hnm hW hS hl
  have hx := X.1.1
  have hb := X.1.2.1
  have hG := X.1.2.2.2.2
  have hA24 := hs.2.2.1
  have hK30 := hs.2.2.2.1
  have hl : lv_has ls 6 [(0, .ref (ad 13 0)), (1, .int k), (2, .int w)] := hl
  refine lv_iload_n hx hb dX5_quarrel_0 rfl (lv_at hl 2 rfl) ?_
  refine lv_i2l (v := Int32.toInt64 w) hx hb dX5_quarrel_1 rfl ?_
  refine lv_lconst (v := 0) hx hb dX5_quarrel_2 (by decide) ?_
  refine lv_ldc2 hx hb X.1.2.2.2.1 (hG _ g694) dX5_quarrel_3 ?_
  refine w_cS1 X hS (m_X5_in l G (Wd G ad nA nK I J) (Int32.toInt64 w) 0 4 ) rfl rfl g583 g4 g581 g582 hd_X5_in ⟨Nat.le_of_ble_eq_true rfl, Nat.le_of_ble_eq_true rfl⟩ hW hl.1 rfl (Nat.le_of_ble_eq_true rfl) dX5_quarrel_6 (Nat.zero_le _) (Nat.zero_le _) (fun H locs hW hS => ?_)
  refine lb_if_ne (tgt := 16) hx hb dX5_quarrel_9 (by decide) (fun c_1 => ?_) (fun c_1 => ?_)
  · skip
    refine lv_iconst (v := 0) hx hb dX5_quarrel_16 (by decide) ?_
    refine lv_istore_n (lv' := [(3, .int 0), (0, .ref (ad 13 0)), (1, .int k), (2, .int w)]) hx hb dX5_quarrel_17 rfl hl (by decide) rfl (fun ls hl => ?_)
    refine lv_iconst (v := 0) hx hb dX5_quarrel_18 (by decide) ?_
    refine lv_istore (lv' := [(4, .int 0), (3, .int 0), (0, .ref (ad 13 0)), (1, .int k), (2, .int w)]) hx hb dX5_quarrel_19 hl (by decide) rfl (fun ls hl => ?_)
    have loop21 : ∀ (d a : Nat) (n : Int32), a + d = mA → (mQOut mA I J k w d a n = mQOut mA I J k w mA 0 0) → ∀ (H : Heap) (locs : List Loc), Wd G ad nA nK I J H → va_S (k_A G) s.heap H locs → ∀ ls : Array Slot, lv_has ls 6 [(4, .int (nI a)), (3, .int n), (0, .ref (ad 13 0)), (1, .int k), (2, .int w)] → W p l e { frames := 3, cells := 0, slots := 0, locals := 73 } s m ([.ref (ad 13 0), .int k, .int w] : List Value).toArray below meth c H locs 0 0 (MQ below (k_Q G (some (.int (mcQuarrel mA I J k w))) (Wd G ad nA nK I J)) ([.ref (ad 13 0), .int k, .int w] : List Value).toArray s 0 0 (k_A G)) (F0 m 21 ls []) := by
      intro d
      induction d with
      | zero =>
        intro a n hi21 hz21  H locs hW hS ls hl
        refine lv_iload hx hb dX5_quarrel_21 (lv_at hl 0 rfl) ?_
        refine lv_aload_n hx hb dX5_quarrel_23 rfl (lv_at hl 2 rfl) ?_
        refine w_get (v := .int (nI mA)) X hW 13 0 Nat.zero_lt_one rfl rfl inG5 6 (by decide) g504 (congrArg (fun z => some (Value.int z)) hs.1) dX5_quarrel_24 ?_
        refine lv_icmp_ge (tgt := 126) hx hb dX5_quarrel_27 (by decide) (fun _ => ?_) (fun c_2 => absurd (nI_le (a := mA) (b := a) (by omega) (by omega)) c_2)
        refine lv_iconst (v := (-1)) hx hb dX5_quarrel_126 (by decide) ?_
        exact w_iret X hr hlk hS (by rw [mcQuarrel, if_pos c_1, ← hz21]; rfl) hW dX5_quarrel_127
      | succ d ih =>
        intro a n hi21 hz21  H locs hW hS ls hl
        have hlt21 : a < mA := by omega
        have ih21 := ih
        refine lv_iload hx hb dX5_quarrel_21 (lv_at hl 0 rfl) ?_
        refine lv_aload_n hx hb dX5_quarrel_23 rfl (lv_at hl 2 rfl) ?_
        refine w_get (v := .int (nI mA)) X hW 13 0 Nat.zero_lt_one rfl rfl inG5 6 (by decide) g504 (congrArg (fun z => some (Value.int z)) hs.1) dX5_quarrel_24 ?_
        refine lv_icmp_ge (tgt := 126) hx hb dX5_quarrel_27 (by decide) (fun c_3 => absurd c_3 (nI_ge (a := a) (b := mA) (by omega) (by omega))) (fun _ => ?_)
        refine lv_iload hx hb dX5_quarrel_30 (lv_at hl 0 rfl) ?_
        refine lv_iconst (v := 1) hx hb dX5_quarrel_32 (by decide) ?_
        refine lw_iaddN (a := a) (b := 1) hx hb dX5_quarrel_33 ?_
        refine lv_istore (lv' := [(5, .int (nI (a + 1))), (4, .int (nI a)), (3, .int n), (0, .ref (ad 13 0)), (1, .int k), (2, .int w)]) hx hb dX5_quarrel_34 hl (by decide) rfl (fun ls hl => ?_)
        have loop36 : ∀ (d2 b : Nat) (n2 : Int32), b + d2 = mA → (mQIn I J k w a d2 b n2 = mQIn I J k w a (mA - (a + 1)) (a + 1) n) → ∀ (H : Heap) (locs : List Loc), Wd G ad nA nK I J H → va_S (k_A G) s.heap H locs → ∀ ls : Array Slot, lv_has ls 6 [(5, .int (nI b)), (3, .int n2), (4, .int (nI a)), (0, .ref (ad 13 0)), (1, .int k), (2, .int w)] → W p l e { frames := 3, cells := 0, slots := 0, locals := 73 } s m ([.ref (ad 13 0), .int k, .int w] : List Value).toArray below meth c H locs 0 0 (MQ below (k_Q G (some (.int (mcQuarrel mA I J k w))) (Wd G ad nA nK I J)) ([.ref (ad 13 0), .int k, .int w] : List Value).toArray s 0 0 (k_A G)) (F0 m 36 ls []) := by
          intro d2
          induction d2 with
          | zero =>
            intro b n2 hi36 hz36  H locs hW hS ls hl
            have hz36 : Sum.inr n2 = mQIn I J k w a (mA - (a + 1)) (a + 1) n := hz36
            refine lv_iload hx hb dX5_quarrel_36 (lv_at hl 0 rfl) ?_
            refine lv_aload_n hx hb dX5_quarrel_38 rfl (lv_at hl 3 rfl) ?_
            refine w_get (v := .int (nI mA)) X hW 13 0 Nat.zero_lt_one rfl rfl inG5 6 (by decide) g504 (congrArg (fun z => some (Value.int z)) hs.1) dX5_quarrel_39 ?_
            refine lv_icmp_ge (tgt := 120) hx hb dX5_quarrel_42 (by decide) (fun _ => ?_) (fun c_4 => absurd (nI_le (a := mA) (b := b) (by omega) (by omega)) c_4)
            refine lv_iinc (v := nI (a + 1)) (lv' := [(4, .int (nI (a + 1))), (5, .int (nI b)), (3, .int n2), (0, .ref (ad 13 0)), (1, .int k), (2, .int w)]) hx hb dX5_quarrel_120 hl (k := 2) rfl (nI_1 a) (by decide) rfl (fun ls hl => ?_)
            refine lv_goto (tgt := 21) hx hb dX5_quarrel_123 (by decide) ?_
            exact ih21 (a + 1) n2 (by omega) (by rw [← hz21]; simp only [mQOut]; rw [← hz36]) _ _ hW hS ls (lv_sub hl [0, 2, 3, 4, 5] rfl)
          | succ d2 ih =>
            intro b n2 hi36 hz36  H locs hW hS ls hl
            have hlt36 : b < mA := by omega
            have ih36 := ih
            refine lv_iload hx hb dX5_quarrel_36 (lv_at hl 0 rfl) ?_
            refine lv_aload_n hx hb dX5_quarrel_38 rfl (lv_at hl 3 rfl) ?_
            refine w_get (v := .int (nI mA)) X hW 13 0 Nat.zero_lt_one rfl rfl inG5 6 (by decide) g504 (congrArg (fun z => some (Value.int z)) hs.1) dX5_quarrel_39 ?_
            refine lv_icmp_ge (tgt := 120) hx hb dX5_quarrel_42 (by decide) (fun c_5 => absurd c_5 (nI_ge (a := b) (b := mA) (by omega) (by omega))) (fun _ => ?_)
            refine lv_aload_n hx hb dX5_quarrel_45 rfl (lv_at hl 3 rfl) ?_
            refine lv_iload hx hb dX5_quarrel_46 (lv_at hl 2 rfl) ?_
            refine lv_iload hx hb dX5_quarrel_48 (lv_at hl 0 rfl) ?_
            refine w_cV1 X hS (m_X5_quarrels l G ad nA nK mA mK E I J a b hs (by first | assumption | omega) (by first | assumption | omega)) rfl rfl g698 g4 g695 g697 p39 hd_X5_quarrels ⟨Nat.le_of_ble_eq_true rfl, Nat.le_of_ble_eq_true rfl⟩ (k_rec X hW 13 0 Nat.zero_lt_one rfl rfl) hW hl.1 rfl (Nat.le_of_ble_eq_true rfl) dX5_quarrel_50 (Nat.zero_le _) (Nat.zero_le _) (fun H locs hW hS => ?_)
            refine lb_if_eq (tgt := 114) hx hb dX5_quarrel_53 (by decide) (fun c_6 => ?_) (fun c_6 => ?_)
            · skip
              refine lv_iinc (v := nI (b + 1)) (lv' := [(5, .int (nI (b + 1))), (3, .int n2), (4, .int (nI a)), (0, .ref (ad 13 0)), (1, .int k), (2, .int w)]) hx hb dX5_quarrel_114 hl (k := 0) rfl (nI_1 b) (by decide) rfl (fun ls hl => ?_)
              refine lv_goto (tgt := 36) hx hb dX5_quarrel_117 (by decide) ?_
              exact ih36 (b + 1) n2 (by omega) (by first | exact hz36 | (rw [← hz36]; simp [mQIn, c_1, c_6]; done) | (simp [← hz36, mQIn, c_1, c_6]; done) | (rw [← hz36]; simp only [mQIn, c_1, c_6, eq_self, if_true, if_false, Bool.false_eq_true, decide_true, decide_false, Bool.not_true, Bool.not_false, Bool.false_or, Bool.true_or, Bool.and_true, Bool.true_and, Bool.false_and, Bool.and_false, Bool.or_true, Bool.or_false]; done)) _ _ hW hS ls (lv_sub hl [0, 1, 2, 3, 4, 5] rfl)
            · skip
              refine lv_iload_n hx hb dX5_quarrel_56 rfl (lv_at hl 1 rfl) ?_
              refine lv_iload_n hx hb dX5_quarrel_57 rfl (lv_at hl 4 rfl) ?_
              refine lv_icmp_ne (tgt := 111) hx hb dX5_quarrel_58 (by decide) (fun c_7 => ?_) (fun c_7 => ?_)
              · skip
                refine lv_iinc (v := n2 + 1) (lv' := [(3, .int (n2 + 1)), (5, .int (nI b)), (4, .int (nI a)), (0, .ref (ad 13 0)), (1, .int k), (2, .int w)]) hx hb dX5_quarrel_111 hl (k := 1) rfl rfl (by decide) rfl (fun ls hl => ?_)
                refine lv_iinc (v := nI (b + 1)) (lv' := [(5, .int (nI (b + 1))), (3, .int (n2 + 1)), (4, .int (nI a)), (0, .ref (ad 13 0)), (1, .int k), (2, .int w)]) hx hb dX5_quarrel_114 hl (k := 1) rfl (nI_1 b) (by decide) rfl (fun ls hl => ?_)
                refine lv_goto (tgt := 36) hx hb dX5_quarrel_117 (by decide) ?_
                exact ih36 (b + 1) (n2 + 1) (by omega) (by first | exact hz36 | (rw [← hz36]; simp [mQIn, c_1, c_6, c_7]; done) | (simp [← hz36, mQIn, c_1, c_6, c_7]; done) | (rw [← hz36]; simp only [mQIn, c_1, c_6, c_7, eq_self, if_true, if_false, Bool.false_eq_true, decide_true, decide_false, Bool.not_true, Bool.not_false, Bool.false_or, Bool.true_or, Bool.and_true, Bool.true_and, Bool.false_and, Bool.and_false, Bool.or_true, Bool.or_false]; done)) _ _ hW hS ls (lv_sub hl [0, 1, 2, 3, 4, 5] rfl)
              · skip
                refine lv_iload_n hx hb dX5_quarrel_61 rfl (lv_at hl 5 rfl) ?_
                refine lv_if_ne (tgt := 70) hx hb dX5_quarrel_62 (by decide) (fun c_8 => ?_) (fun c_8 => ?_)
                · skip
                  refine lv_iload_n hx hb dX5_quarrel_70 rfl (lv_at hl 5 rfl) ?_
                  refine lv_iconst (v := 1) hx hb dX5_quarrel_71 (by decide) ?_
                  refine lv_icmp_ne (tgt := 80) hx hb dX5_quarrel_72 (by decide) (fun c_9 => ?_) (fun c_9 => ?_)
                  · skip
                    rcases k_2_4 c_1 c_8 c_9 with h10 | h10 | h10
                    · skip
                      subst h10
                      have hx9 : ¬ (I 31 0 (3 * a + 2 - 2)) &&& (I 31 0 (3 * b + 2 - 2)) = 0 := by simpa using mQuar_set (k := 0) c_6 (by decide)
                      refine lv_aload_n hx hb dX5_quarrel_80 rfl (lv_at hl 3 rfl) ?_
                      refine w_get X hW 13 0 Nat.zero_lt_one rfl rfl inG5 11 (by decide) g509 rfl dX5_quarrel_81 ?_
                      refine lv_iconst (v := 3) hx hb dX5_quarrel_84 (by decide) ?_
                      refine lv_iload hx hb dX5_quarrel_85 (lv_at hl 2 rfl) ?_
                      refine lw_imulN (a := 3) (b := a) hx hb dX5_quarrel_87 ?_
                      refine lv_iload_n hx hb dX5_quarrel_88 rfl (lv_at hl 5 rfl) ?_
                      refine lw_iaddN (a := 3 * a) (b := 2) hx hb dX5_quarrel_89 ?_
                      refine lv_iconst (v := 2) hx hb dX5_quarrel_90 (by decide) ?_
                      refine lw_isubN (a := 3 * a + 2) (b := 2) (by omega) hx hb dX5_quarrel_91 ?_
                      refine w_ialdN (i := 3 * a + 2 - 2) X hW 31 0 Nat.zero_lt_one rfl (by omega) dX5_quarrel_92 ?_
                      refine lv_aload_n hx hb dX5_quarrel_93 rfl (lv_at hl 3 rfl) ?_
                      refine w_get X hW 13 0 Nat.zero_lt_one rfl rfl inG5 11 (by decide) g509 rfl dX5_quarrel_94 ?_
                      refine lv_iconst (v := 3) hx hb dX5_quarrel_97 (by decide) ?_
                      refine lv_iload hx hb dX5_quarrel_98 (lv_at hl 0 rfl) ?_
                      refine lw_imulN (a := 3) (b := b) hx hb dX5_quarrel_100 ?_
                      refine lv_iload_n hx hb dX5_quarrel_101 rfl (lv_at hl 5 rfl) ?_
                      refine lw_iaddN (a := 3 * b) (b := 2) hx hb dX5_quarrel_102 ?_
                      refine lv_iconst (v := 2) hx hb dX5_quarrel_103 (by decide) ?_
                      refine lw_isubN (a := 3 * b + 2) (b := 2) (by omega) hx hb dX5_quarrel_104 ?_
                      refine w_ialdN (i := 3 * b + 2 - 2) X hW 31 0 Nat.zero_lt_one rfl (by omega) dX5_quarrel_105 ?_
                      refine lv_iand hx hb dX5_quarrel_106 ?_
                      refine w_cS1 X hS (m_X5_leastOf_x l G (Wd G ad nA nK I J) ((I 31 0 (3 * a + 2 - 2)) &&& (I 31 0 (3 * b + 2 - 2))) (by assumption)) rfl rfl g712 g4 g710 g711 hd_X5_leastOf ⟨Nat.le_of_ble_eq_true rfl, Nat.le_of_ble_eq_true rfl⟩ hW hl.1 rfl (Nat.le_of_ble_eq_true rfl) dX5_quarrel_107 (Nat.zero_le _) (Nat.zero_le _) (fun H locs hW hS => ?_)
                      exact w_iret X hr hlk hS (by rw [mcQuarrel, if_pos c_1, ← hz21]; simp only [mQOut]; rw [← hz36]; simp [mQIn, mQPart, c_6, c_7, c_8, c_9]) hW dX5_quarrel_110
                    · skip
                      subst h10
                      have hx9 : ¬ (I 31 0 (3 * a + 3 - 2)) &&& (I 31 0 (3 * b + 3 - 2)) = 0 := by simpa using mQuar_set (k := 1) c_6 (by decide)
                      refine lv_aload_n hx hb dX5_quarrel_80 rfl (lv_at hl 3 rfl) ?_
                      refine w_get X hW 13 0 Nat.zero_lt_one rfl rfl inG5 11 (by decide) g509 rfl dX5_quarrel_81 ?_
                      refine lv_iconst (v := 3) hx hb dX5_quarrel_84 (by decide) ?_
                      refine lv_iload hx hb dX5_quarrel_85 (lv_at hl 2 rfl) ?_
                      refine lw_imulN (a := 3) (b := a) hx hb dX5_quarrel_87 ?_
                      refine lv_iload_n hx hb dX5_quarrel_88 rfl (lv_at hl 5 rfl) ?_
                      refine lw_iaddN (a := 3 * a) (b := 3) hx hb dX5_quarrel_89 ?_
                      refine lv_iconst (v := 2) hx hb dX5_quarrel_90 (by decide) ?_
                      refine lw_isubN (a := 3 * a + 3) (b := 2) (by omega) hx hb dX5_quarrel_91 ?_
                      refine w_ialdN (i := 3 * a + 3 - 2) X hW 31 0 Nat.zero_lt_one rfl (by omega) dX5_quarrel_92 ?_
                      refine lv_aload_n hx hb dX5_quarrel_93 rfl (lv_at hl 3 rfl) ?_
                      refine w_get X hW 13 0 Nat.zero_lt_one rfl rfl inG5 11 (by decide) g509 rfl dX5_quarrel_94 ?_
                      refine lv_iconst (v := 3) hx hb dX5_quarrel_97 (by decide) ?_
                      refine lv_iload hx hb dX5_quarrel_98 (lv_at hl 0 rfl) ?_
                      refine lw_imulN (a := 3) (b := b) hx hb dX5_quarrel_100 ?_
                      refine lv_iload_n hx hb dX5_quarrel_101 rfl (lv_at hl 5 rfl) ?_
                      refine lw_iaddN (a := 3 * b) (b := 3) hx hb dX5_quarrel_102 ?_
                      refine lv_iconst (v := 2) hx hb dX5_quarrel_103 (by decide) ?_
                      refine lw_isubN (a := 3 * b + 3) (b := 2) (by omega) hx hb dX5_quarrel_104 ?_
                      refine w_ialdN (i := 3 * b + 3 - 2) X hW 31 0 Nat.zero_lt_one rfl (by omega) dX5_quarrel_105 ?_
                      refine lv_iand hx hb dX5_quarrel_106 ?_
                      refine w_cS1 X hS (m_X5_leastOf_x l G (Wd G ad nA nK I J) ((I 31 0 (3 * a + 3 - 2)) &&& (I 31 0 (3 * b + 3 - 2))) (by assumption)) rfl rfl g712 g4 g710 g711 hd_X5_leastOf ⟨Nat.le_of_ble_eq_true rfl, Nat.le_of_ble_eq_true rfl⟩ hW hl.1 rfl (Nat.le_of_ble_eq_true rfl) dX5_quarrel_107 (Nat.zero_le _) (Nat.zero_le _) (fun H locs hW hS => ?_)
                      exact w_iret X hr hlk hS (by rw [mcQuarrel, if_pos c_1, ← hz21]; simp only [mQOut]; rw [← hz36]; simp [mQIn, mQPart, c_6, c_7, c_8, c_9]) hW dX5_quarrel_110
                    · skip
                      subst h10
                      have hx9 : ¬ (I 31 0 (3 * a + 4 - 2)) &&& (I 31 0 (3 * b + 4 - 2)) = 0 := by simpa using mQuar_set (k := 2) c_6 (by decide)
                      refine lv_aload_n hx hb dX5_quarrel_80 rfl (lv_at hl 3 rfl) ?_
                      refine w_get X hW 13 0 Nat.zero_lt_one rfl rfl inG5 11 (by decide) g509 rfl dX5_quarrel_81 ?_
                      refine lv_iconst (v := 3) hx hb dX5_quarrel_84 (by decide) ?_
                      refine lv_iload hx hb dX5_quarrel_85 (lv_at hl 2 rfl) ?_
                      refine lw_imulN (a := 3) (b := a) hx hb dX5_quarrel_87 ?_
                      refine lv_iload_n hx hb dX5_quarrel_88 rfl (lv_at hl 5 rfl) ?_
                      refine lw_iaddN (a := 3 * a) (b := 4) hx hb dX5_quarrel_89 ?_
                      refine lv_iconst (v := 2) hx hb dX5_quarrel_90 (by decide) ?_
                      refine lw_isubN (a := 3 * a + 4) (b := 2) (by omega) hx hb dX5_quarrel_91 ?_
                      refine w_ialdN (i := 3 * a + 4 - 2) X hW 31 0 Nat.zero_lt_one rfl (by omega) dX5_quarrel_92 ?_
                      refine lv_aload_n hx hb dX5_quarrel_93 rfl (lv_at hl 3 rfl) ?_
                      refine w_get X hW 13 0 Nat.zero_lt_one rfl rfl inG5 11 (by decide) g509 rfl dX5_quarrel_94 ?_
                      refine lv_iconst (v := 3) hx hb dX5_quarrel_97 (by decide) ?_
                      refine lv_iload hx hb dX5_quarrel_98 (lv_at hl 0 rfl) ?_
                      refine lw_imulN (a := 3) (b := b) hx hb dX5_quarrel_100 ?_
                      refine lv_iload_n hx hb dX5_quarrel_101 rfl (lv_at hl 5 rfl) ?_
                      refine lw_iaddN (a := 3 * b) (b := 4) hx hb dX5_quarrel_102 ?_
                      refine lv_iconst (v := 2) hx hb dX5_quarrel_103 (by decide) ?_
                      refine lw_isubN (a := 3 * b + 4) (b := 2) (by omega) hx hb dX5_quarrel_104 ?_
                      refine w_ialdN (i := 3 * b + 4 - 2) X hW 31 0 Nat.zero_lt_one rfl (by omega) dX5_quarrel_105 ?_
                      refine lv_iand hx hb dX5_quarrel_106 ?_
                      refine w_cS1 X hS (m_X5_leastOf_x l G (Wd G ad nA nK I J) ((I 31 0 (3 * a + 4 - 2)) &&& (I 31 0 (3 * b + 4 - 2))) (by assumption)) rfl rfl g712 g4 g710 g711 hd_X5_leastOf ⟨Nat.le_of_ble_eq_true rfl, Nat.le_of_ble_eq_true rfl⟩ hW hl.1 rfl (Nat.le_of_ble_eq_true rfl) dX5_quarrel_107 (Nat.zero_le _) (Nat.zero_le _) (fun H locs hW hS => ?_)
                      exact w_iret X hr hlk hS (by rw [mcQuarrel, if_pos c_1, ← hz21]; simp only [mQOut]; rw [← hz36]; simp [mQIn, mQPart, c_6, c_7, c_8, c_9]) hW dX5_quarrel_110
                  · skip
                    refine lv_iload hx hb dX5_quarrel_75 (lv_at hl 0 rfl) ?_
                    refine lv_goto (tgt := 110) hx hb dX5_quarrel_77 (by decide) ?_
                    exact w_iret X hr hlk hS (by rw [mcQuarrel, if_pos c_1, ← hz21]; simp only [mQOut]; rw [← hz36]; simp [mQIn, mQPart, c_6, c_7, c_8, c_9]) hW dX5_quarrel_110
                · skip
                  refine lv_iload hx hb dX5_quarrel_65 (lv_at hl 2 rfl) ?_
                  refine lv_goto (tgt := 110) hx hb dX5_quarrel_67 (by decide) ?_
                  exact w_iret X hr hlk hS (by rw [mcQuarrel, if_pos c_1, ← hz21]; simp only [mQOut]; rw [← hz36]; simp [mQIn, mQPart, c_6, c_7, c_8]) hW dX5_quarrel_110
        exact loop36 (mA - (a + 1)) (a + 1) n (by omega) rfl _ _ hW hS ls (lv_sub hl [0, 2, 1, 3, 4, 5] rfl)
    exact loop21 mA 0 0 (by omega) rfl _ _ hW hS ls (lv_sub hl [0, 1, 2, 3, 4] rfl)
  · skip
    refine lv_sipush (v := (-1002)) hx hb dX5_quarrel_12 (by decide) ?_
    exact w_iret X hr hlk hS (by first | rfl | (simp [mcQuarrel, c_1]; done) | (simp [mcQuarrel, c_1]; rfl)) hW dX5_quarrel_15
set_option maxHeartbeats 4000000 in
set_option maxRecDepth 100000 in
theorem m_X5_cost (l : Launch) (G : k_G) (ad : Nat → Nat → Nat) (nA nK : Nat) (mA mK : Nat) (E : Nat → Nat) (I : k_I) (J : k_J) (k : Int32) (a : Int32) (hs : m_S mA mK E I) : k_Met l yX5_cost cX5_cost 3 (some FieldType.int) { frames := 3, cells := 0, slots := 0, locals := 72 } G [.ref (ad 13 0), .int k, .int a] (Wd G ad nA nK I J) (some (.int ((mcCost E mA mK k a (I, J)).1))) (Wd G ad nA nK ((mcCost E mA mK k a (I, J)).2.1) ((mcCost E mA mK k a (I, J)).2.2)) 0 0 := by
  refine k_body (by decide) (Nat.le_of_ble_eq_true rfl) ?_
  intro p e s m below meth c ls X hr hlk hnm hW hS hl
  have hx := X.1.1
  have hb := X.1.2.1
  have hG := X.1.2.2.2.2
  have hA24 := hs.2.2.1
  have hK30 := hs.2.2.2.1
  have hl : lv_has ls 3 [(0, .ref (ad 13 0)), (1, .int k), (2, .int a)] := hl
  refine lv_aload_n hx hb dX5_cost_0 rfl (lv_at hl 0 rfl) ?_
  refine lv_iload_n hx hb dX5_cost_1 rfl (lv_at hl 1 rfl) ?_
  refine w_cV1 X hS (m_X5_isAsk l G ad nA nK mA mK E I J k hs) rfl rfl g724 g4 g721 g723 p42 hd_X5_isAsk ⟨Nat.le_of_ble_eq_true rfl, Nat.le_of_ble_eq_true rfl⟩ (k_rec X hW 13 0 Nat.zero_lt_one rfl rfl) hW hl.1 rfl (Nat.le_of_ble_eq_true rfl) dX5_cost_2 (Nat.zero_le _) (Nat.zero_le _) (fun H locs hW hS => ?_)
  refine lb_if_eq (tgt := 16) hx hb dX5_cost_5 (by decide) (fun c_1 => ?_) (fun c_1 => ?_)
  · skip
    have hk2 : kAns mK k = none := mIs_none (by omega) c_1
    refine lv_sipush (v := (-1001)) hx hb dX5_cost_16 (by decide) ?_
    exact w_iret X hr hlk hS (by first | rfl | (simp [mcCost, c_1, hk2]; done) | (simp [mcCost, c_1, hk2]; rfl)) (hW.to (by first | rfl | (simp [mcCost, c_1, hk2]; done)) (by first | rfl | (simp [mcCost, c_1, hk2]; done))) dX5_cost_19
  · skip
    obtain ⟨i3, hi3, rfl⟩ := mIs_nat (by omega) c_1
    have hk3 : kAns mK (nI i3) = some i3 := kAns_lt hi3 (by omega)
    have hl : lv_has ls 3 [(0, .ref (ad 13 0)), (1, .int (nI i3)), (2, .int a)] := hl
    refine lv_aload_n hx hb dX5_cost_8 rfl (lv_at hl 0 rfl) ?_
    refine lv_iload_n hx hb dX5_cost_9 rfl (lv_at hl 2 rfl) ?_
    refine w_cV1 X hS (m_X5_is l G ad nA nK mA mK E I J a hs) rfl rfl g615 g4 g612 g614 p30 hd_X5_is ⟨Nat.le_of_ble_eq_true rfl, Nat.le_of_ble_eq_true rfl⟩ (k_rec X hW 13 0 Nat.zero_lt_one rfl rfl) hW hl.1 rfl (Nat.le_of_ble_eq_true rfl) dX5_cost_10 (Nat.zero_le _) (Nat.zero_le _) (fun H locs hW hS => ?_)
    refine lb_if_ne (tgt := 20) hx hb dX5_cost_13 (by decide) (fun c_4 => ?_) (fun c_4 => ?_)
    · skip
      obtain ⟨i5, hi5, rfl⟩ := mIs_nat (by omega) c_4
      have hk5 : kAns mA (nI i5) = some i5 := kAns_lt hi5 (by omega)
      have hl : lv_has ls 3 [(0, .ref (ad 13 0)), (1, .int (nI i3)), (2, .int (nI i5))] := hl
      refine lv_aload_n hx hb dX5_cost_20 rfl (lv_at hl 0 rfl) ?_
      refine w_cVv X hS (m_X5_work l G ad nA nK mA mK E I J  hs) rfl rfl g631 g4 g628 g630 p32 hd_X5_work ⟨Nat.le_of_ble_eq_true rfl, Nat.le_of_ble_eq_true rfl⟩ (k_rec X hW 13 0 Nat.zero_lt_one rfl rfl) hW hl.1 rfl (Nat.le_of_ble_eq_true rfl) dX5_cost_21 (Nat.zero_le _) (Nat.zero_le _) (fun H locs hW hS => ?_)
      obtain ⟨I6, eI6⟩ : ∃ z, z = (mWork E mA (I, J)).1 := ⟨_, rfl⟩
      rw [← eI6] at hW
      have hs6 : m_S mA mK E I6 := by rw [eI6]; exact (mWork_S (s := (I, J)) hs)
      obtain ⟨J6, eJ6⟩ : ∃ z, z = (mWork E mA (I, J)).2 := ⟨_, rfl⟩
      rw [← eJ6] at hW
      refine lv_aload_n hx hb dX5_cost_24 rfl (lv_at hl 0 rfl) ?_
      refine lv_iload_n hx hb dX5_cost_25 rfl (lv_at hl 1 rfl) ?_
      refine lv_iload_n hx hb dX5_cost_26 rfl (lv_at hl 2 rfl) ?_
      refine w_cV1 X hS (m_X5_isFit l G ad nA nK mA mK E I6 J6 i3 i5 hs6 (by first | assumption | omega) (by first | assumption | omega)) rfl rfl g728 g4 g725 g727 p43 hd_X5_isFit ⟨Nat.le_of_ble_eq_true rfl, Nat.le_of_ble_eq_true rfl⟩ (k_rec X hW 13 0 Nat.zero_lt_one rfl rfl) hW hl.1 rfl (Nat.le_of_ble_eq_true rfl) dX5_cost_27 (Nat.zero_le _) (Nat.zero_le _) (fun H locs hW hS => ?_)
      refine lb_if_eq (tgt := 48) hx hb dX5_cost_30 (by decide) (fun c_7 => ?_) (fun c_7 => ?_)
      · skip
        refine lv_sipush (v := (-1003)) hx hb dX5_cost_48 (by decide) ?_
        exact w_iret X hr hlk hS (by first | rfl | (simp [mcCost, c_1, hk3, c_4, hk5, c_7, eI6, eJ6]; done) | (subst eJ6 eI6; simp [mcCost, c_1, hk3, c_4, hk5, c_7]; done) | (simp [mcCost, c_1, hk3, c_4, hk5, c_7, eI6, eJ6]; rfl)) (hW.to (by first | rfl | (subst eJ6 eI6; simp [mcCost, c_1, hk3, c_4, hk5, c_7]; done) | (subst eJ6 eI6; rfl) | (subst eJ6 eI6; simp [mcCost, c_1, hk3, c_4, hk5, c_7]; done) | (subst eJ6 eI6; simp [mcCost, c_1, hk3, c_4, hk5, c_7]; rfl) | (simp [mcCost, c_1, hk3, c_4, hk5, c_7, eI6, eJ6]; done)) (by first | rfl | (subst eJ6 eI6; simp [mcCost, c_1, hk3, c_4, hk5, c_7]; done) | (subst eJ6 eI6; rfl) | (subst eJ6 eI6; simp [mcCost, c_1, hk3, c_4, hk5, c_7]; done) | (subst eJ6 eI6; simp [mcCost, c_1, hk3, c_4, hk5, c_7]; rfl) | (simp [mcCost, c_1, hk3, c_4, hk5, c_7, eI6, eJ6]; done))) dX5_cost_51
      · skip
        refine lv_aload_n hx hb dX5_cost_33 rfl (lv_at hl 0 rfl) ?_
        refine lv_aload_n hx hb dX5_cost_34 rfl (lv_at hl 0 rfl) ?_
        refine w_get X hW 13 0 Nat.zero_lt_one rfl rfl inG5 17 (by decide) g515 rfl dX5_cost_35 ?_
        refine lv_iload_n hx hb dX5_cost_38 rfl (lv_at hl 1 rfl) ?_
        refine w_laldN (i := i3) X hW 37 0 Nat.zero_lt_one rfl (by omega) dX5_cost_39 ?_
        refine lv_iload_n hx hb dX5_cost_40 rfl (lv_at hl 1 rfl) ?_
        refine lv_iload_n hx hb dX5_cost_41 rfl (lv_at hl 2 rfl) ?_
        refine w_cV1 X hS (m_X5_costWith l G ad nA nK mA mK E I6 J6 (J6 37 0 i3) i3 i5 hs6 (by first | assumption | omega) (by first | assumption | omega)) rfl rfl g732 g4 g729 g731 p44 hd_X5_costWith ⟨Nat.le_of_ble_eq_true rfl, Nat.le_of_ble_eq_true rfl⟩ (k_rec X hW 13 0 Nat.zero_lt_one rfl rfl) hW hl.1 rfl (Nat.le_of_ble_eq_true rfl) dX5_cost_42 (Nat.zero_le _) (Nat.zero_le _) (fun H locs hW hS => ?_)
        refine lv_goto (tgt := 51) hx hb dX5_cost_45 (by decide) ?_
        exact w_iret X hr hlk hS (by first | rfl | (simp [mcCost, c_1, hk3, c_4, hk5, c_7, eI6, eJ6]; done) | (subst eJ6 eI6; simp [mcCost, c_1, hk3, c_4, hk5, c_7]; done) | (simp [mcCost, c_1, hk3, c_4, hk5, c_7, eI6, eJ6]; rfl)) (hW.to (by first | rfl | (subst eJ6 eI6; simp [mcCost, c_1, hk3, c_4, hk5, c_7]; done) | (subst eJ6 eI6; rfl) | (subst eJ6 eI6; simp [mcCost, c_1, hk3, c_4, hk5, c_7]; done) | (subst eJ6 eI6; simp [mcCost, c_1, hk3, c_4, hk5, c_7]; rfl) | (simp [mcCost, c_1, hk3, c_4, hk5, c_7, eI6, eJ6]; done)) (by first | rfl | (subst eJ6 eI6; simp [mcCost, c_1, hk3, c_4, hk5, c_7]; done) | (subst eJ6 eI6; rfl) | (subst eJ6 eI6; simp [mcCost, c_1, hk3, c_4, hk5, c_7]; done) | (subst eJ6 eI6; simp [mcCost, c_1, hk3, c_4, hk5, c_7]; rfl) | (simp [mcCost, c_1, hk3, c_4, hk5, c_7, eI6, eJ6]; done))) dX5_cost_51
    · skip
      have hk8 : kAns mA a = none := mIs_none (by omega) c_4
      refine lv_sipush (v := (-1001)) hx hb dX5_cost_16 (by decide) ?_
      exact w_iret X hr hlk hS (by first | rfl | (simp [mcCost, c_1, hk3, c_4, hk8]; done) | (simp [mcCost, c_1, hk3, c_4, hk8]; rfl)) (hW.to (by first | rfl | (simp [mcCost, c_1, hk3, c_4, hk8]; done)) (by first | rfl | (simp [mcCost, c_1, hk3, c_4, hk8]; done))) dX5_cost_19
