set_option maxHeartbeats 1200000 in
set_option maxRecDepth 100000 in
theorem m_X5_ask (l : Launch) (G : k_G) (ad : Nat → Nat → Nat) (nA nK : Nat) (mA mK : Nat) (E : Nat → Nat) (I : k_I) (J : k_J) (x0 : Int64) (x1 : Int32) (y1 : Int32) (z1 : Int32) (hs : m_S mA mK E I) : k_Met l yX5_ask cX5_ask 7 (some FieldType.int) { frames := 2, cells := 0, slots := 0, locals := 46 } G [.ref (ad 13 0), .long (x0), .int x1, .int y1, .int z1] (Wd G ad nA nK I J) (some (.int ((mcAsk mK x0 x1 y1 z1 (I, J)).1))) (Wd G ad nA nK ((mcAsk mK x0 x1 y1 z1 (I, J)).2.1) ((mcAsk mK x0 x1 y1 z1 (I, J)).2.2)) 0 0 := by
  refine k_body (by decide) (Nat.le_of_ble_eq_true rfl) ?_
  intro p e s m below meth c ls X hr hlk hnm hW hS hl
  have hx := X.1.1
  have hb := X.1.2.1
  have hG := X.1.2.2.2.2
  have hA24 := hs.2.2.1
  have hK30 := hs.2.2.2.1
  have hl : lv_has ls 7 [(0, .ref (ad 13 0)), (1, .long (x0)), (3, .int x1), (4, .int y1), (5, .int z1)] := hl
  have join20 : ∀ (g0 : Bool), (g0 = (decide (x1 = -1) || mIsV 0 x1)) → ∀ (H : Heap) (locs : List Loc), Wd G ad nA nK I J H → va_S (k_A G) s.heap H locs → ∀ ls : Array Slot, lv_has ls 7 [(6, .int (k_b g0)), (0, .ref (ad 13 0)), (1, .long (x0)), (3, .int x1), (4, .int y1), (5, .int z1)] → W p l e { frames := 2, cells := 0, slots := 0, locals := 46 } s m ([.ref (ad 13 0), .long (x0), .int x1, .int y1, .int z1] : List Value).toArray below meth c H locs 0 0 (MQ below (k_Q G (some (.int ((mcAsk mK x0 x1 y1 z1 (I, J)).1))) (Wd G ad nA nK ((mcAsk mK x0 x1 y1 z1 (I, J)).2.1) ((mcAsk mK x0 x1 y1 z1 (I, J)).2.2))) ([.ref (ad 13 0), .long (x0), .int x1, .int y1, .int z1] : List Value).toArray s 0 0 (k_A G)) (F0 m 20 ls []) := by
    intro g0 hg0 H locs hW hS ls hl
    have join62 : ∀ (ok : Bool), (ok = mGood x1 y1 z1) → ∀ (H : Heap) (locs : List Loc), Wd G ad nA nK I J H → va_S (k_A G) s.heap H locs → ∀ ls : Array Slot, lv_has ls 7 [(6, .int (k_b ok)), (0, .ref (ad 13 0)), (1, .long (x0)), (3, .int x1), (4, .int y1), (5, .int z1)] → W p l e { frames := 2, cells := 0, slots := 0, locals := 46 } s m ([.ref (ad 13 0), .long (x0), .int x1, .int y1, .int z1] : List Value).toArray below meth c H locs 0 0 (MQ below (k_Q G (some (.int ((mcAsk mK x0 x1 y1 z1 (I, J)).1))) (Wd G ad nA nK ((mcAsk mK x0 x1 y1 z1 (I, J)).2.1) ((mcAsk mK x0 x1 y1 z1 (I, J)).2.2))) ([.ref (ad 13 0), .long (x0), .int x1, .int y1, .int z1] : List Value).toArray s 0 0 (k_A G)) (F0 m 62 ls []) := by
      intro ok hok H locs hW hS ls hl
      refine lv_lload_n hx hb dX5_ask_62 rfl (lv_at hl 2 rfl) ?_
      refine lv_lconst (v := 0) hx hb dX5_ask_63 (by decide) ?_
      refine lv_ldc2 hx hb X.1.2.2.2.1 (hG _ g599) dX5_ask_64 ?_
      refine w_cS1 X hS (m_X5_in l G (Wd G ad nA nK I J) x0 0 1099511627775 ) rfl rfl g583 g4 g581 g582 hd_X5_in ⟨Nat.le_of_ble_eq_true rfl, Nat.le_of_ble_eq_true rfl⟩ hW hl.1 rfl (Nat.le_of_ble_eq_true rfl) dX5_ask_67 (Nat.zero_le _) (Nat.zero_le _) (fun H locs hW hS => ?_)
      refine lb_if_eq (tgt := 78) hx hb dX5_ask_70 (by decide) (fun c_1 => ?_) (fun c_1 => ?_)
      · skip
        refine lv_sipush (v := (-1002)) hx hb dX5_ask_78 (by decide) ?_
        exact w_iret X hr hlk hS (by simp [mcAsk, ← hok, hg0, c_1, mAkI, mAk5, mw]) (hW.to (by simp [mcAsk, ← hok, hg0, c_1, mAkI, mAk5, mw, mwJ]) (by simp [mcAsk, ← hok, hg0, c_1, mAkI, mAk5, mw, mwJ])) dX5_ask_81
      · skip
        refine lv_iload hx hb dX5_ask_73 (lv_at hl 0 rfl) ?_
        refine lb_if_ne (tgt := 82) hx hb dX5_ask_75 (by decide) (fun c_2 => ?_) (fun c_2 => ?_)
        · skip
          refine lv_aload_n hx hb dX5_ask_82 rfl (lv_at hl 1 rfl) ?_
          refine w_get (v := .int (nI mK)) X hW 13 0 Nat.zero_lt_one rfl rfl inG5 16 (by decide) g514 (congrArg (fun z => some (Value.int z)) hs.2.1) dX5_ask_83 ?_
          refine lv_bipush (v := 30) hx hb dX5_ask_86 (by decide) ?_
          refine lv_icmp_ne (tgt := 95) hx hb dX5_ask_88 (by decide) (fun c_3 => ?_) (fun c_3 => ?_)
          · skip
            have h24 : mK < 30 := nI_full (N := 30) (by omega) (by decide) rfl c_3
            refine lv_aload_n hx hb dX5_ask_95 rfl (lv_at hl 1 rfl) ?_
            refine w_get X hW 13 0 Nat.zero_lt_one rfl rfl inG5 17 (by decide) g515 rfl dX5_ask_96 ?_
            refine lv_aload_n hx hb dX5_ask_99 rfl (lv_at hl 1 rfl) ?_
            refine w_get (v := .int (nI mK)) X hW 13 0 Nat.zero_lt_one rfl rfl inG5 16 (by decide) g514 (congrArg (fun z => some (Value.int z)) hs.2.1) dX5_ask_100 ?_
            refine lv_lload_n hx hb dX5_ask_103 rfl (lv_at hl 2 rfl) ?_
            refine w_lastN (i := mK) X hW hS 37 0 Nat.zero_lt_one rfl (by omega) rfl dX5_ask_104 (fun H locs hW hS => ?_)
            obtain ⟨J4, eJ4⟩ : ∃ z, z = k_up J 37 0 (vp_updL (J 37 0) mK x0) := ⟨_, rfl⟩
            rw [← eJ4] at hW
            refine lv_aload_n hx hb dX5_ask_105 rfl (lv_at hl 1 rfl) ?_
            refine w_get X hW 13 0 Nat.zero_lt_one rfl rfl inG5 18 (by decide) g516 rfl dX5_ask_106 ?_
            refine lv_iconst (v := 3) hx hb dX5_ask_109 (by decide) ?_
            refine lv_aload_n hx hb dX5_ask_110 rfl (lv_at hl 1 rfl) ?_
            refine w_get (v := .int (nI mK)) X hW 13 0 Nat.zero_lt_one rfl rfl inG5 16 (by decide) g514 (congrArg (fun z => some (Value.int z)) hs.2.1) dX5_ask_111 ?_
            refine lw_imulN (a := 3) (b := mK) hx hb dX5_ask_114 ?_
            refine lv_iload_n hx hb dX5_ask_115 rfl (lv_at hl 3 rfl) ?_
            refine w_iastN (i := 3 * mK) X hW hS 38 0 Nat.zero_lt_one rfl (by omega) rfl dX5_ask_116 (fun H locs hW hS => ?_)
            obtain ⟨I5, eI5⟩ : ∃ z, z = k_up I 38 0 (upd (I 38 0) (3 * mK) x1) := ⟨_, rfl⟩
            rw [← eI5] at hW
            have hs5 : m_S mA mK E I5 := by rw [eI5]; exact hs.up 38 _ _ (by decide)
            refine lv_aload_n hx hb dX5_ask_117 rfl (lv_at hl 1 rfl) ?_
            refine w_get X hW 13 0 Nat.zero_lt_one rfl rfl inG5 18 (by decide) g516 rfl dX5_ask_118 ?_
            refine lv_iconst (v := 3) hx hb dX5_ask_121 (by decide) ?_
            refine lv_aload_n hx hb dX5_ask_122 rfl (lv_at hl 1 rfl) ?_
            refine w_get (v := .int (nI mK)) X hW 13 0 Nat.zero_lt_one rfl rfl inG5 16 (by decide) g514 (congrArg (fun z => some (Value.int z)) hs5.2.1) dX5_ask_123 ?_
            refine lw_imulN (a := 3) (b := mK) hx hb dX5_ask_126 ?_
            refine lv_iconst (v := 1) hx hb dX5_ask_127 (by decide) ?_
            refine lw_iaddN (a := 3 * mK) (b := 1) hx hb dX5_ask_128 ?_
            refine lv_iload hx hb dX5_ask_129 (lv_at hl 4 rfl) ?_
            refine w_iastN (i := 3 * mK + 1) X hW hS 38 0 Nat.zero_lt_one rfl (by omega) rfl dX5_ask_131 (fun H locs hW hS => ?_)
            obtain ⟨I6, eI6⟩ : ∃ z, z = k_up I5 38 0 (upd (I5 38 0) (3 * mK + 1) y1) := ⟨_, rfl⟩
            rw [← eI6] at hW
            have hs6 : m_S mA mK E I6 := by rw [eI6]; exact hs5.up 38 _ _ (by decide)
            refine lv_aload_n hx hb dX5_ask_132 rfl (lv_at hl 1 rfl) ?_
            refine w_get X hW 13 0 Nat.zero_lt_one rfl rfl inG5 18 (by decide) g516 rfl dX5_ask_133 ?_
            refine lv_iconst (v := 3) hx hb dX5_ask_136 (by decide) ?_
            refine lv_aload_n hx hb dX5_ask_137 rfl (lv_at hl 1 rfl) ?_
            refine w_get (v := .int (nI mK)) X hW 13 0 Nat.zero_lt_one rfl rfl inG5 16 (by decide) g514 (congrArg (fun z => some (Value.int z)) hs6.2.1) dX5_ask_138 ?_
            refine lw_imulN (a := 3) (b := mK) hx hb dX5_ask_141 ?_
            refine lv_iconst (v := 2) hx hb dX5_ask_142 (by decide) ?_
            refine lw_iaddN (a := 3 * mK) (b := 2) hx hb dX5_ask_143 ?_
            refine lv_iload hx hb dX5_ask_144 (lv_at hl 5 rfl) ?_
            refine w_iastN (i := 3 * mK + 2) X hW hS 38 0 Nat.zero_lt_one rfl (by omega) rfl dX5_ask_146 (fun H locs hW hS => ?_)
            obtain ⟨I7, eI7⟩ : ∃ z, z = k_up I6 38 0 (upd (I6 38 0) (3 * mK + 2) z1) := ⟨_, rfl⟩
            rw [← eI7] at hW
            have hs7 : m_S mA mK E I7 := by rw [eI7]; exact hs6.up 38 _ _ (by decide)
            refine lv_aload_n hx hb dX5_ask_147 rfl (lv_at hl 1 rfl) ?_
            refine lv_dup hx hb dX5_ask_148 rfl ?_
            refine w_get (v := .int (nI mK)) X hW 13 0 Nat.zero_lt_one rfl rfl inG5 16 (by decide) g514 (congrArg (fun z => some (Value.int z)) hs7.2.1) dX5_ask_149 ?_
            refine lv_iconst (v := 1) hx hb dX5_ask_152 (by decide) ?_
            refine lw_iaddN (a := mK) (b := 1) hx hb dX5_ask_153 ?_
            refine w_puti X hW hS 13 0 Nat.zero_lt_one rfl rfl inG5 tyX5 tyX5_ok nmX5 16 (by decide) g514 rfl rfl rfl (Nat.le_of_ble_eq_true rfl) rfl dX5_ask_154 (fun H locs hW hS => ?_)
            obtain ⟨I8, eI8⟩ : ∃ z, z = k_up I7 13 0 (upd (I7 13 0) 16 (nI (mK + 1))) := ⟨_, rfl⟩
            rw [← eI8] at hW
            refine lv_aload_n hx hb dX5_ask_157 rfl (lv_at hl 1 rfl) ?_
            refine w_get X hW 13 0 Nat.zero_lt_one rfl rfl inG5 16 (by decide) g514 rfl dX5_ask_158 ?_
            refine lv_iconst (v := 1) hx hb dX5_ask_161 (by decide) ?_
            refine lv_isub hx hb dX5_ask_162 ?_
            exact w_iret X hr hlk hS (by subst eI8 eI7 eI6 eI5 eJ4; simp [mcAsk, ← hok, hg0, c_1, c_2, c_3, mAkI, mAk5, mw]) (hW.to (by subst eI8 eI7 eI6 eI5; simp [mcAsk, ← hok, hg0, c_1, c_2, c_3, mAkI, mAk5, mw, mwJ]) (by subst eJ4; simp [mcAsk, ← hok, hg0, c_1, c_2, c_3, mAkI, mAk5, mw, mwJ])) dX5_ask_163
          · skip
            refine lv_sipush (v := (-1004)) hx hb dX5_ask_91 (by decide) ?_
            exact w_iret X hr hlk hS (by simp [mcAsk, ← hok, hg0, c_1, c_2, c_3, mAkI, mAk5, mw]) (hW.to (by simp [mcAsk, ← hok, hg0, c_1, c_2, c_3, mAkI, mAk5, mw, mwJ]) (by simp [mcAsk, ← hok, hg0, c_1, c_2, c_3, mAkI, mAk5, mw, mwJ])) dX5_ask_94
        · skip
          refine lv_sipush (v := (-1002)) hx hb dX5_ask_78 (by decide) ?_
          exact w_iret X hr hlk hS (by simp [mcAsk, ← hok, hg0, c_1, c_2, mAkI, mAk5, mw]) (hW.to (by simp [mcAsk, ← hok, hg0, c_1, c_2, mAkI, mAk5, mw, mwJ]) (by simp [mcAsk, ← hok, hg0, c_1, c_2, mAkI, mAk5, mw, mwJ])) dX5_ask_81
    refine lv_iload hx hb dX5_ask_20 (lv_at hl 0 rfl) ?_
    refine lb_if_eq (tgt := 59) hx hb dX5_ask_22 (by decide) (fun c_9 => ?_) (fun c_9 => ?_)
    · skip
      refine lv_iconst (v := 0) hx hb dX5_ask_59 (by decide) ?_
      refine lv_istore (lv' := [(6, .int 0), (0, .ref (ad 13 0)), (1, .long (x0)), (3, .int x1), (4, .int y1), (5, .int z1)]) hx hb dX5_ask_60 hl (by decide) rfl (fun ls hl => ?_)
      exact join62 false (by simp [mGood, ← hg0, c_9]) _ _ hW hS ls (lv_sub hl [0, 1, 2, 3, 4, 5] rfl)
    · skip
      refine lv_iload hx hb dX5_ask_25 (lv_at hl 4 rfl) ?_
      refine lv_iconst (v := (-1)) hx hb dX5_ask_27 (by decide) ?_
      refine lv_icmp_eq (tgt := 40) hx hb dX5_ask_28 (by decide) (fun c_10 => ?_) (fun c_10 => ?_)
      · skip
        refine lv_iload hx hb dX5_ask_40 (lv_at hl 5 rfl) ?_
        refine lv_iconst (v := (-1)) hx hb dX5_ask_42 (by decide) ?_
        refine lv_icmp_eq (tgt := 55) hx hb dX5_ask_43 (by decide) (fun c_11 => ?_) (fun c_11 => ?_)
        · skip
          refine lv_iconst (v := 1) hx hb dX5_ask_55 (by decide) ?_
          refine lv_goto (tgt := 60) hx hb dX5_ask_56 (by decide) ?_
          refine lv_istore (lv' := [(6, .int 1), (0, .ref (ad 13 0)), (1, .long (x0)), (3, .int x1), (4, .int y1), (5, .int z1)]) hx hb dX5_ask_60 hl (by decide) rfl (fun ls hl => ?_)
          exact join62 true (by simp [mGood, ← hg0, c_9, c_10, c_11]) _ _ hW hS ls (lv_sub hl [0, 1, 2, 3, 4, 5] rfl)
        · skip
          refine lv_iconst (v := 2) hx hb dX5_ask_46 (by decide) ?_
          refine lv_iload hx hb dX5_ask_47 (lv_at hl 5 rfl) ?_
          refine w_cS1 X hS (m_X5_isValue l G (Wd G ad nA nK I J) 2 z1 ) rfl rfl g687 g4 g685 g686 hd_X5_isValue ⟨Nat.le_of_ble_eq_true rfl, Nat.le_of_ble_eq_true rfl⟩ hW hl.1 rfl (Nat.le_of_ble_eq_true rfl) dX5_ask_49 (Nat.zero_le _) (Nat.zero_le _) (fun H locs hW hS => ?_)
          refine lb_if_eq (tgt := 59) hx hb dX5_ask_52 (by decide) (fun c_12 => ?_) (fun c_12 => ?_)
          · skip
            refine lv_iconst (v := 0) hx hb dX5_ask_59 (by decide) ?_
            refine lv_istore (lv' := [(6, .int 0), (0, .ref (ad 13 0)), (1, .long (x0)), (3, .int x1), (4, .int y1), (5, .int z1)]) hx hb dX5_ask_60 hl (by decide) rfl (fun ls hl => ?_)
            exact join62 false (by simp [mGood, ← hg0, c_9, c_10, c_11, c_12]) _ _ hW hS ls (lv_sub hl [0, 1, 2, 3, 4, 5] rfl)
          · skip
            refine lv_iconst (v := 1) hx hb dX5_ask_55 (by decide) ?_
            refine lv_goto (tgt := 60) hx hb dX5_ask_56 (by decide) ?_
            refine lv_istore (lv' := [(6, .int 1), (0, .ref (ad 13 0)), (1, .long (x0)), (3, .int x1), (4, .int y1), (5, .int z1)]) hx hb dX5_ask_60 hl (by decide) rfl (fun ls hl => ?_)
            exact join62 true (by simp [mGood, ← hg0, c_9, c_10, c_11, c_12]) _ _ hW hS ls (lv_sub hl [0, 1, 2, 3, 4, 5] rfl)
      · skip
        refine lv_iconst (v := 1) hx hb dX5_ask_31 (by decide) ?_
        refine lv_iload hx hb dX5_ask_32 (lv_at hl 4 rfl) ?_
        refine w_cS1 X hS (m_X5_isValue l G (Wd G ad nA nK I J) 1 y1 ) rfl rfl g687 g4 g685 g686 hd_X5_isValue ⟨Nat.le_of_ble_eq_true rfl, Nat.le_of_ble_eq_true rfl⟩ hW hl.1 rfl (Nat.le_of_ble_eq_true rfl) dX5_ask_34 (Nat.zero_le _) (Nat.zero_le _) (fun H locs hW hS => ?_)
        refine lb_if_eq (tgt := 59) hx hb dX5_ask_37 (by decide) (fun c_13 => ?_) (fun c_13 => ?_)
        · skip
          refine lv_iconst (v := 0) hx hb dX5_ask_59 (by decide) ?_
          refine lv_istore (lv' := [(6, .int 0), (0, .ref (ad 13 0)), (1, .long (x0)), (3, .int x1), (4, .int y1), (5, .int z1)]) hx hb dX5_ask_60 hl (by decide) rfl (fun ls hl => ?_)
          exact join62 false (by simp [mGood, ← hg0, c_9, c_10, c_13]) _ _ hW hS ls (lv_sub hl [0, 1, 2, 3, 4, 5] rfl)
        · skip
          refine lv_iload hx hb dX5_ask_40 (lv_at hl 5 rfl) ?_
          refine lv_iconst (v := (-1)) hx hb dX5_ask_42 (by decide) ?_
          refine lv_icmp_eq (tgt := 55) hx hb dX5_ask_43 (by decide) (fun c_14 => ?_) (fun c_14 => ?_)
          · skip
            refine lv_iconst (v := 1) hx hb dX5_ask_55 (by decide) ?_
            refine lv_goto (tgt := 60) hx hb dX5_ask_56 (by decide) ?_
            refine lv_istore (lv' := [(6, .int 1), (0, .ref (ad 13 0)), (1, .long (x0)), (3, .int x1), (4, .int y1), (5, .int z1)]) hx hb dX5_ask_60 hl (by decide) rfl (fun ls hl => ?_)
            exact join62 true (by simp [mGood, ← hg0, c_9, c_10, c_13, c_14]) _ _ hW hS ls (lv_sub hl [0, 1, 2, 3, 4, 5] rfl)
          · skip
            refine lv_iconst (v := 2) hx hb dX5_ask_46 (by decide) ?_
            refine lv_iload hx hb dX5_ask_47 (lv_at hl 5 rfl) ?_
            refine w_cS1 X hS (m_X5_isValue l G (Wd G ad nA nK I J) 2 z1 ) rfl rfl g687 g4 g685 g686 hd_X5_isValue ⟨Nat.le_of_ble_eq_true rfl, Nat.le_of_ble_eq_true rfl⟩ hW hl.1 rfl (Nat.le_of_ble_eq_true rfl) dX5_ask_49 (Nat.zero_le _) (Nat.zero_le _) (fun H locs hW hS => ?_)
            refine lb_if_eq (tgt := 59) hx hb dX5_ask_52 (by decide) (fun c_15 => ?_) (fun c_15 => ?_)
            · skip
              refine lv_iconst (v := 0) hx hb dX5_ask_59 (by decide) ?_
              refine lv_istore (lv' := [(6, .int 0), (0, .ref (ad 13 0)), (1, .long (x0)), (3, .int x1), (4, .int y1), (5, .int z1)]) hx hb dX5_ask_60 hl (by decide) rfl (fun ls hl => ?_)
              exact join62 false (by simp [mGood, ← hg0, c_9, c_10, c_13, c_14, c_15]) _ _ hW hS ls (lv_sub hl [0, 1, 2, 3, 4, 5] rfl)
            · skip
              refine lv_iconst (v := 1) hx hb dX5_ask_55 (by decide) ?_
              refine lv_goto (tgt := 60) hx hb dX5_ask_56 (by decide) ?_
              refine lv_istore (lv' := [(6, .int 1), (0, .ref (ad 13 0)), (1, .long (x0)), (3, .int x1), (4, .int y1), (5, .int z1)]) hx hb dX5_ask_60 hl (by decide) rfl (fun ls hl => ?_)
              exact join62 true (by simp [mGood, ← hg0, c_9, c_10, c_13, c_14, c_15]) _ _ hW hS ls (lv_sub hl [0, 1, 2, 3, 4, 5] rfl)
  refine lv_iload_n hx hb dX5_ask_0 rfl (lv_at hl 2 rfl) ?_
  refine lv_iconst (v := (-1)) hx hb dX5_ask_1 (by decide) ?_
  refine lv_icmp_eq (tgt := 13) hx hb dX5_ask_2 (by decide) (fun c_16 => ?_) (fun c_16 => ?_)
  · skip
    refine lv_iconst (v := 1) hx hb dX5_ask_13 (by decide) ?_
    refine lv_goto (tgt := 18) hx hb dX5_ask_14 (by decide) ?_
    refine lv_istore (lv' := [(6, .int 1), (0, .ref (ad 13 0)), (1, .long (x0)), (3, .int x1), (4, .int y1), (5, .int z1)]) hx hb dX5_ask_18 hl (by decide) rfl (fun ls hl => ?_)
    exact join20 true (by simp [c_16]) _ _ hW hS ls (lv_sub hl [0, 1, 2, 3, 4, 5] rfl)
  · skip
    refine lv_iconst (v := 0) hx hb dX5_ask_5 (by decide) ?_
    refine lv_iload_n hx hb dX5_ask_6 rfl (lv_at hl 2 rfl) ?_
    refine w_cS1 X hS (m_X5_isValue l G (Wd G ad nA nK I J) 0 x1 ) rfl rfl g687 g4 g685 g686 hd_X5_isValue ⟨Nat.le_of_ble_eq_true rfl, Nat.le_of_ble_eq_true rfl⟩ hW hl.1 rfl (Nat.le_of_ble_eq_true rfl) dX5_ask_7 (Nat.zero_le _) (Nat.zero_le _) (fun H locs hW hS => ?_)
    refine lb_if_eq (tgt := 17) hx hb dX5_ask_10 (by decide) (fun c_17 => ?_) (fun c_17 => ?_)
    · skip
      refine lv_iconst (v := 0) hx hb dX5_ask_17 (by decide) ?_
      refine lv_istore (lv' := [(6, .int 0), (0, .ref (ad 13 0)), (1, .long (x0)), (3, .int x1), (4, .int y1), (5, .int z1)]) hx hb dX5_ask_18 hl (by decide) rfl (fun ls hl => ?_)
      exact join20 false (by simp [c_16, c_17]) _ _ hW hS ls (lv_sub hl [0, 1, 2, 3, 4, 5] rfl)
    · skip
      refine lv_iconst (v := 1) hx hb dX5_ask_13 (by decide) ?_
      refine lv_goto (tgt := 18) hx hb dX5_ask_14 (by decide) ?_
      refine lv_istore (lv' := [(6, .int 1), (0, .ref (ad 13 0)), (1, .long (x0)), (3, .int x1), (4, .int y1), (5, .int z1)]) hx hb dX5_ask_18 hl (by decide) rfl (fun ls hl => ?_)
      exact join20 true (by simp [c_16, c_17]) _ _ hW hS ls (lv_sub hl [0, 1, 2, 3, 4, 5] rfl)
