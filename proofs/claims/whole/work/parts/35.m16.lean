set_option maxHeartbeats 1200000 in
set_option maxRecDepth 100000 in
theorem m_X5_join (l : Launch) (G : k_G) (ad : Nat → Nat → Nat) (nA nK : Nat) (mA mK : Nat) (E : Nat → Nat) (I : k_I) (J : k_J) (a : Int32) (b : Int32) (c9 : Int32) (d9 : Int32) (hs : m_S mA mK E I) : k_Met l yX5_join cX5_join 8 (some FieldType.int) { frames := 2, cells := 0, slots := 0, locals := 46 } G [.ref (ad 13 0), .int a, .int b, .int c9, .int d9] (Wd G ad nA nK I J) (some (.int ((mcJoin mA a b c9 d9 (I, J)).1))) (Wd G ad nA nK ((mcJoin mA a b c9 d9 (I, J)).2.1) ((mcJoin mA a b c9 d9 (I, J)).2.2)) 0 0 := by
  refine k_body (by decide) (Nat.le_of_ble_eq_true rfl) ?_
  intro p e s m below meth c ls X hr hlk hnm hW hS hl
  have hx := X.1.1
  have hb := X.1.2.1
  have hG := X.1.2.2.2.2
  have hA24 := hs.2.2.1
  have hK30 := hs.2.2.2.1
  have hl : lv_has ls 8 [(0, .ref (ad 13 0)), (1, .int a), (2, .int b), (3, .int c9), (4, .int d9)] := hl
  refine lv_aload_n hx hb dX5_join_0 rfl (lv_at hl 0 rfl) ?_
  refine lv_iload_n hx hb dX5_join_1 rfl (lv_at hl 1 rfl) ?_
  refine w_cV1 X hS (m_X5_is l G ad nA nK mA mK E I J a hs) rfl rfl g615 g4 g612 g614 p30 hd_X5_is ⟨Nat.le_of_ble_eq_true rfl, Nat.le_of_ble_eq_true rfl⟩ (k_rec X hW 13 0 Nat.zero_lt_one rfl rfl) hW hl.1 rfl (Nat.le_of_ble_eq_true rfl) dX5_join_2 (Nat.zero_le _) (Nat.zero_le _) (fun H locs hW hS => ?_)
  refine lb_if_eq (tgt := 44) hx hb dX5_join_5 (by decide) (fun c_1 => ?_) (fun c_1 => ?_)
  · skip
    have hk2 : kAns mA a = none := mIs_none (by omega) c_1
    refine lv_sipush (v := (-1001)) hx hb dX5_join_44 (by decide) ?_
    exact w_iret X hr hlk hS (by first | rfl | (simp [mcJoin, mJoI, mw, c_1, hk2]; done) | (simp [mcJoin, mJoI, mw, c_1, hk2]; rfl)) (hW.to (by first | rfl | (simp [mcJoin, mJoI, mw, c_1, hk2]; done)) (by first | rfl | (simp [mcJoin, mJoI, mw, c_1, hk2]; done))) dX5_join_47
  · skip
    obtain ⟨i3, hi3, rfl⟩ := mIs_nat (by omega) c_1
    have hk3 : kAns mA (nI i3) = some i3 := kAns_lt hi3 (by omega)
    have hn3 : ¬ nI i3 < 0 := nI_pos (by omega)
    have hm3 : (0 : Int32) ≤ nI i3 := Int32.not_lt.mp hn3
    have hl : lv_has ls 8 [(0, .ref (ad 13 0)), (1, .int (nI i3)), (2, .int b), (3, .int c9), (4, .int d9)] := hl
    refine lv_aload_n hx hb dX5_join_8 rfl (lv_at hl 0 rfl) ?_
    refine lv_iload_n hx hb dX5_join_9 rfl (lv_at hl 2 rfl) ?_
    refine w_cV1 X hS (m_X5_is l G ad nA nK mA mK E I J b hs) rfl rfl g615 g4 g612 g614 p30 hd_X5_is ⟨Nat.le_of_ble_eq_true rfl, Nat.le_of_ble_eq_true rfl⟩ (k_rec X hW 13 0 Nat.zero_lt_one rfl rfl) hW hl.1 rfl (Nat.le_of_ble_eq_true rfl) dX5_join_10 (Nat.zero_le _) (Nat.zero_le _) (fun H locs hW hS => ?_)
    refine lb_if_eq (tgt := 44) hx hb dX5_join_13 (by decide) (fun c_4 => ?_) (fun c_4 => ?_)
    · skip
      have hk5 : kAns mA b = none := mIs_none (by omega) c_4
      refine lv_sipush (v := (-1001)) hx hb dX5_join_44 (by decide) ?_
      exact w_iret X hr hlk hS (by first | rfl | (simp [mcJoin, mJoI, mw, c_1, hk3, hn3, hm3, c_4, hk5]; done) | (simp [mcJoin, mJoI, mw, c_1, hk3, hn3, hm3, c_4, hk5]; rfl)) (hW.to (by first | rfl | (simp [mcJoin, mJoI, mw, c_1, hk3, hn3, hm3, c_4, hk5]; done)) (by first | rfl | (simp [mcJoin, mJoI, mw, c_1, hk3, hn3, hm3, c_4, hk5]; done))) dX5_join_47
    · skip
      obtain ⟨i6, hi6, rfl⟩ := mIs_nat (by omega) c_4
      have hk6 : kAns mA (nI i6) = some i6 := kAns_lt hi6 (by omega)
      have hn6 : ¬ nI i6 < 0 := nI_pos (by omega)
      have hm6 : (0 : Int32) ≤ nI i6 := Int32.not_lt.mp hn6
      have hl : lv_has ls 8 [(0, .ref (ad 13 0)), (1, .int (nI i3)), (2, .int (nI i6)), (3, .int c9), (4, .int d9)] := hl
      refine lv_iload_n hx hb dX5_join_16 rfl (lv_at hl 3 rfl) ?_
      refine lv_iconst (v := (-1)) hx hb dX5_join_17 (by decide) ?_
      refine lv_icmp_eq (tgt := 29) hx hb dX5_join_18 (by decide) (fun c_7 => ?_) (fun c_7 => ?_)
      · skip
        subst c_7
        have hk8 : kAns mA (-1) = none := rfl
        have hl : lv_has ls 8 [(0, .ref (ad 13 0)), (1, .int (nI i3)), (2, .int (nI i6)), (3, .int ((-1))), (4, .int d9)] := hl
        refine lv_iload hx hb dX5_join_29 (lv_at hl 4 rfl) ?_
        refine lv_iconst (v := (-1)) hx hb dX5_join_31 (by decide) ?_
        refine lv_icmp_eq (tgt := 48) hx hb dX5_join_32 (by decide) (fun c_9 => ?_) (fun c_9 => ?_)
        · skip
          subst c_9
          have hk10 : kAns mA (-1) = none := rfl
          have hl : lv_has ls 8 [(0, .ref (ad 13 0)), (1, .int (nI i3)), (2, .int (nI i6)), (3, .int ((-1))), (4, .int ((-1)))] := hl
          have join97 : ∀ (pl : Bool), (pl = (mPlX mA I (nI i3) && (mPlX mA I (nI i6) && (mPlX mA I (-1) && mPlX mA I (-1))))) → ∀ (H : Heap) (locs : List Loc), Wd G ad nA nK I J H → va_S (k_A G) s.heap H locs → ∀ ls : Array Slot, lv_has ls 8 [(5, .int (k_b pl)), (0, .ref (ad 13 0)), (1, .int (nI i3)), (2, .int (nI i6)), (3, .int ((-1))), (4, .int ((-1)))] → W p l e { frames := 2, cells := 0, slots := 0, locals := 46 } s m ([.ref (ad 13 0), .int (nI i3), .int (nI i6), .int (-1), .int (-1)] : List Value).toArray below meth c H locs 0 0 (MQ below (k_Q G (some (.int ((mcJoin mA (nI i3) (nI i6) (-1) (-1) (I, J)).1))) (Wd G ad nA nK ((mcJoin mA (nI i3) (nI i6) (-1) (-1) (I, J)).2.1) ((mcJoin mA (nI i3) (nI i6) (-1) (-1) (I, J)).2.2))) ([.ref (ad 13 0), .int (nI i3), .int (nI i6), .int (-1), .int (-1)] : List Value).toArray s 0 0 (k_A G)) (F0 m 97 ls []) := by
            intro pl hpl H locs hW hS ls hl
            have join141 : ∀ (un : Bool), (un = mUnl (nI i3) (nI i6) (-1) (-1)) → ∀ (H : Heap) (locs : List Loc), Wd G ad nA nK I J H → va_S (k_A G) s.heap H locs → ∀ ls : Array Slot, lv_has ls 8 [(6, .int (k_b un)), (5, .int (k_b pl)), (0, .ref (ad 13 0)), (1, .int (nI i3)), (2, .int (nI i6)), (3, .int ((-1))), (4, .int ((-1)))] → W p l e { frames := 2, cells := 0, slots := 0, locals := 46 } s m ([.ref (ad 13 0), .int (nI i3), .int (nI i6), .int (-1), .int (-1)] : List Value).toArray below meth c H locs 0 0 (MQ below (k_Q G (some (.int ((mcJoin mA (nI i3) (nI i6) (-1) (-1) (I, J)).1))) (Wd G ad nA nK ((mcJoin mA (nI i3) (nI i6) (-1) (-1) (I, J)).2.1) ((mcJoin mA (nI i3) (nI i6) (-1) (-1) (I, J)).2.2))) ([.ref (ad 13 0), .int (nI i3), .int (nI i6), .int (-1), .int (-1)] : List Value).toArray s 0 0 (k_A G)) (F0 m 141 ls []) := by
              intro un hun H locs hW hS ls hl
              refine lv_iload hx hb dX5_join_141 (lv_at hl 1 rfl) ?_
              refine lb_if_eq (tgt := 160) hx hb dX5_join_143 (by decide) (fun c_11 => ?_) (fun c_11 => ?_)
              · skip
                refine lv_sipush (v := (-1003)) hx hb dX5_join_160 (by decide) ?_
                exact w_iret X hr hlk hS (by simp only [mcJoin]; rw [← hpl, ← hun]; simp [c_1, hk3, hn3, hm3, c_4, hk6, hn6, hm6, hk8, hk10, c_11]) (hW.to (by simp only [mcJoin]; rw [← hpl, ← hun]; simp [c_1, hk3, hn3, hm3, c_4, hk6, hn6, hm6, hk8, hk10, c_11]) (by simp only [mcJoin]; rw [← hpl, ← hun]; simp [c_1, hk3, hn3, hm3, c_4, hk6, hn6, hm6, hk8, hk10, c_11])) dX5_join_163
              · skip
                refine lv_iload hx hb dX5_join_146 (lv_at hl 0 rfl) ?_
                refine lb_if_eq (tgt := 160) hx hb dX5_join_148 (by decide) (fun c_12 => ?_) (fun c_12 => ?_)
                · skip
                  refine lv_sipush (v := (-1003)) hx hb dX5_join_160 (by decide) ?_
                  exact w_iret X hr hlk hS (by simp only [mcJoin]; rw [← hpl, ← hun]; simp [c_1, hk3, hn3, hm3, c_4, hk6, hn6, hm6, hk8, hk10, c_11, c_12]) (hW.to (by simp only [mcJoin]; rw [← hpl, ← hun]; simp [c_1, hk3, hn3, hm3, c_4, hk6, hn6, hm6, hk8, hk10, c_11, c_12]) (by simp only [mcJoin]; rw [← hpl, ← hun]; simp [c_1, hk3, hn3, hm3, c_4, hk6, hn6, hm6, hk8, hk10, c_11, c_12])) dX5_join_163
                · skip
                  refine lv_iload_n hx hb dX5_join_151 rfl (lv_at hl 5 rfl) ?_
                  refine lv_if_ge (tgt := 164) hx hb dX5_join_152 (by decide) (fun c_13 => absurd c_13 (by decide)) (fun _ => ?_)
                  refine lv_iload hx hb dX5_join_155 (lv_at hl 6 rfl) ?_
                  refine lv_if_lt (tgt := 164) hx hb dX5_join_157 (by decide) (fun _ => ?_) (fun c_14 => absurd (by decide) c_14)
                  refine lv_aload_n hx hb dX5_join_164 rfl (lv_at hl 2 rfl) ?_
                  refine w_get (v := .int (nI mA)) X hW 13 0 Nat.zero_lt_one rfl rfl inG5 6 (by decide) g504 (congrArg (fun z => some (Value.int z)) hs.1) dX5_join_165 ?_
                  refine lv_bipush (v := 24) hx hb dX5_join_168 (by decide) ?_
                  refine lv_icmp_ne (tgt := 177) hx hb dX5_join_170 (by decide) (fun c_15 => ?_) (fun c_15 => ?_)
                  · skip
                    have h24 : mA < 24 := nI_full (N := 24) (by omega) (by decide) rfl c_15
                    refine lv_aload_n hx hb dX5_join_177 rfl (lv_at hl 2 rfl) ?_
                    refine lv_iconst (v := 1) hx hb dX5_join_178 (by decide) ?_
                    refine w_cV1 X hS (m_X5_fresh l G ad nA nK mA mK E I J 1 hs (by first | assumption | omega)) rfl rfl g607 g4 g604 g606 p29 hd_X5_fresh ⟨Nat.le_of_ble_eq_true rfl, Nat.le_of_ble_eq_true rfl⟩ (k_rec X hW 13 0 Nat.zero_lt_one rfl rfl) hW hl.1 rfl (Nat.le_of_ble_eq_true rfl) dX5_join_179 (Nat.zero_le _) (Nat.zero_le _) (fun H locs hW hS => ?_)
                    obtain ⟨I16, eI16⟩ : ∃ z, z = mFr mA 1 I := ⟨_, rfl⟩
                    rw [← eI16] at hW
                    obtain ⟨J16, eJ16⟩ : ∃ z, z = mFrJ mA J := ⟨_, rfl⟩
                    rw [← eJ16] at hW
                    refine lv_istore (lv' := [(7, .int (nI mA)), (6, .int (k_b un)), (5, .int (k_b pl)), (0, .ref (ad 13 0)), (1, .int (nI i3)), (2, .int (nI i6)), (3, .int ((-1))), (4, .int ((-1)))]) hx hb dX5_join_182 hl (by decide) rfl (fun ls hl => ?_)
                    refine lv_aload_n hx hb dX5_join_184 rfl (lv_at hl 3 rfl) ?_
                    refine w_get X hW 13 0 Nat.zero_lt_one rfl rfl inG5 15 (by decide) g513 rfl dX5_join_185 ?_
                    refine lv_iconst (v := 4) hx hb dX5_join_188 (by decide) ?_
                    refine lv_iload hx hb dX5_join_189 (lv_at hl 0 rfl) ?_
                    refine lw_imulN (a := 4) (b := mA) hx hb dX5_join_191 ?_
                    refine lv_iload_n hx hb dX5_join_192 rfl (lv_at hl 4 rfl) ?_
                    refine w_iastN (i := 4 * mA) X hW hS 35 0 Nat.zero_lt_one rfl (by omega) rfl dX5_join_193 (fun H locs hW hS => ?_)
                    obtain ⟨I17, eI17⟩ : ∃ z, z = k_up I16 35 0 (upd (I16 35 0) (4 * mA) (nI i3)) := ⟨_, rfl⟩
                    rw [← eI17] at hW
                    refine lv_aload_n hx hb dX5_join_194 rfl (lv_at hl 3 rfl) ?_
                    refine w_get X hW 13 0 Nat.zero_lt_one rfl rfl inG5 15 (by decide) g513 rfl dX5_join_195 ?_
                    refine lv_iconst (v := 4) hx hb dX5_join_198 (by decide) ?_
                    refine lv_iload hx hb dX5_join_199 (lv_at hl 0 rfl) ?_
                    refine lw_imulN (a := 4) (b := mA) hx hb dX5_join_201 ?_
                    refine lv_iconst (v := 1) hx hb dX5_join_202 (by decide) ?_
                    refine lw_iaddN (a := 4 * mA) (b := 1) hx hb dX5_join_203 ?_
                    refine lv_iload_n hx hb dX5_join_204 rfl (lv_at hl 5 rfl) ?_
                    refine w_iastN (i := 4 * mA + 1) X hW hS 35 0 Nat.zero_lt_one rfl (by omega) rfl dX5_join_205 (fun H locs hW hS => ?_)
                    obtain ⟨I18, eI18⟩ : ∃ z, z = k_up I17 35 0 (upd (I17 35 0) (4 * mA + 1) (nI i6)) := ⟨_, rfl⟩
                    rw [← eI18] at hW
                    refine lv_aload_n hx hb dX5_join_206 rfl (lv_at hl 3 rfl) ?_
                    refine w_get X hW 13 0 Nat.zero_lt_one rfl rfl inG5 15 (by decide) g513 rfl dX5_join_207 ?_
                    refine lv_iconst (v := 4) hx hb dX5_join_210 (by decide) ?_
                    refine lv_iload hx hb dX5_join_211 (lv_at hl 0 rfl) ?_
                    refine lw_imulN (a := 4) (b := mA) hx hb dX5_join_213 ?_
                    refine lv_iconst (v := 2) hx hb dX5_join_214 (by decide) ?_
                    refine lw_iaddN (a := 4 * mA) (b := 2) hx hb dX5_join_215 ?_
                    refine lv_iload_n hx hb dX5_join_216 rfl (lv_at hl 6 rfl) ?_
                    refine w_iastN (i := 4 * mA + 2) X hW hS 35 0 Nat.zero_lt_one rfl (by omega) rfl dX5_join_217 (fun H locs hW hS => ?_)
                    obtain ⟨I19, eI19⟩ : ∃ z, z = k_up I18 35 0 (upd (I18 35 0) (4 * mA + 2) (-1)) := ⟨_, rfl⟩
                    rw [← eI19] at hW
                    refine lv_aload_n hx hb dX5_join_218 rfl (lv_at hl 3 rfl) ?_
                    refine w_get X hW 13 0 Nat.zero_lt_one rfl rfl inG5 15 (by decide) g513 rfl dX5_join_219 ?_
                    refine lv_iconst (v := 4) hx hb dX5_join_222 (by decide) ?_
                    refine lv_iload hx hb dX5_join_223 (lv_at hl 0 rfl) ?_
                    refine lw_imulN (a := 4) (b := mA) hx hb dX5_join_225 ?_
                    refine lv_iconst (v := 3) hx hb dX5_join_226 (by decide) ?_
                    refine lw_iaddN (a := 4 * mA) (b := 3) hx hb dX5_join_227 ?_
                    refine lv_iload hx hb dX5_join_228 (lv_at hl 7 rfl) ?_
                    refine w_iastN (i := 4 * mA + 3) X hW hS 35 0 Nat.zero_lt_one rfl (by omega) rfl dX5_join_230 (fun H locs hW hS => ?_)
                    obtain ⟨I20, eI20⟩ : ∃ z, z = k_up I19 35 0 (upd (I19 35 0) (4 * mA + 3) (-1)) := ⟨_, rfl⟩
                    rw [← eI20] at hW
                    refine lv_iload hx hb dX5_join_231 (lv_at hl 0 rfl) ?_
                    exact w_iret X hr hlk hS (by simp only [mcJoin]; rw [← hpl, ← hun]; simp [c_1, hk3, hn3, hm3, c_4, hk6, hn6, hm6, hk8, hk10, c_11, c_12, c_15]) (hW.to (by subst eI20 eI19 eI18 eI17 eI16; simp only [mcJoin]; rw [← hpl, ← hun]; simp [c_1, hk3, hn3, hm3, c_4, hk6, hn6, hm6, hk8, hk10, c_11, c_12, c_15, mJoI, mw]) (by subst eJ16; simp only [mcJoin]; rw [← hpl, ← hun]; simp [c_1, hk3, hn3, hm3, c_4, hk6, hn6, hm6, hk8, hk10, c_11, c_12, c_15, mJoI, mw])) dX5_join_233
                  · skip
                    refine lv_sipush (v := (-1004)) hx hb dX5_join_173 (by decide) ?_
                    exact w_iret X hr hlk hS (by simp only [mcJoin]; rw [← hpl, ← hun]; simp [c_1, hk3, hn3, hm3, c_4, hk6, hn6, hm6, hk8, hk10, c_11, c_12, c_15]) (hW.to (by simp only [mcJoin]; rw [← hpl, ← hun]; simp [c_1, hk3, hn3, hm3, c_4, hk6, hn6, hm6, hk8, hk10, c_11, c_12, c_15]) (by simp only [mcJoin]; rw [← hpl, ← hun]; simp [c_1, hk3, hn3, hm3, c_4, hk6, hn6, hm6, hk8, hk10, c_11, c_12, c_15])) dX5_join_176
            refine lv_iload_n hx hb dX5_join_97 rfl (lv_at hl 2 rfl) ?_
            refine lv_iload_n hx hb dX5_join_98 rfl (lv_at hl 3 rfl) ?_
            refine lv_icmp_eq (tgt := 138) hx hb dX5_join_99 (by decide) (fun c_21 => ?_) (fun c_21 => ?_)
            · skip
              refine lv_iconst (v := 0) hx hb dX5_join_138 (by decide) ?_
              refine lv_istore (lv' := [(6, .int 0), (5, .int (k_b pl)), (0, .ref (ad 13 0)), (1, .int (nI i3)), (2, .int (nI i6)), (3, .int ((-1))), (4, .int ((-1)))]) hx hb dX5_join_139 hl (by decide) rfl (fun ls hl => ?_)
              exact join141 false (by simp [mUnl, c_1, hk3, hn3, hm3, c_4, hk6, hn6, hm6, hk8, hk10, hpl, c_21]) _ _ hW hS ls (lv_sub hl [0, 1, 2, 3, 4, 5, 6] rfl)
            · skip
              refine lv_iload_n hx hb dX5_join_102 rfl (lv_at hl 2 rfl) ?_
              refine lv_iload_n hx hb dX5_join_103 rfl (lv_at hl 4 rfl) ?_
              refine lv_icmp_eq (tgt := 138) hx hb dX5_join_104 (by decide) (fun c_22 => ?_) (fun c_22 => ?_)
              · skip
                refine lv_iconst (v := 0) hx hb dX5_join_138 (by decide) ?_
                refine lv_istore (lv' := [(6, .int 0), (5, .int (k_b pl)), (0, .ref (ad 13 0)), (1, .int (nI i3)), (2, .int (nI i6)), (3, .int ((-1))), (4, .int ((-1)))]) hx hb dX5_join_139 hl (by decide) rfl (fun ls hl => ?_)
                exact join141 false (by simp [mUnl, c_1, hk3, hn3, hm3, c_4, hk6, hn6, hm6, hk8, hk10, hpl, c_21, c_22]) _ _ hW hS ls (lv_sub hl [0, 1, 2, 3, 4, 5, 6] rfl)
              · skip
                refine lv_iload_n hx hb dX5_join_107 rfl (lv_at hl 3 rfl) ?_
                refine lv_iload_n hx hb dX5_join_108 rfl (lv_at hl 4 rfl) ?_
                refine lv_icmp_eq (tgt := 138) hx hb dX5_join_109 (by decide) (fun c_23 => ?_) (fun c_23 => ?_)
                · skip
                  refine lv_iconst (v := 0) hx hb dX5_join_138 (by decide) ?_
                  refine lv_istore (lv' := [(6, .int 0), (5, .int (k_b pl)), (0, .ref (ad 13 0)), (1, .int (nI i3)), (2, .int (nI i6)), (3, .int ((-1))), (4, .int ((-1)))]) hx hb dX5_join_139 hl (by decide) rfl (fun ls hl => ?_)
                  exact join141 false (by simp [mUnl, c_1, hk3, hn3, hm3, c_4, hk6, hn6, hm6, hk8, hk10, hpl, c_21, c_22, c_23]) _ _ hW hS ls (lv_sub hl [0, 1, 2, 3, 4, 5, 6] rfl)
                · skip
                  refine lv_iload_n hx hb dX5_join_112 rfl (lv_at hl 2 rfl) ?_
                  refine lv_iload hx hb dX5_join_113 (lv_at hl 5 rfl) ?_
                  refine lv_icmp_eq (tgt := 138) hx hb dX5_join_115 (by decide) (fun c_24 => absurd c_24 c_22) (fun _ => ?_)
                  refine lv_iload_n hx hb dX5_join_118 rfl (lv_at hl 3 rfl) ?_
                  refine lv_iload hx hb dX5_join_119 (lv_at hl 5 rfl) ?_
                  refine lv_icmp_eq (tgt := 138) hx hb dX5_join_121 (by decide) (fun c_25 => absurd c_25 c_23) (fun _ => ?_)
                  refine lv_iload_n hx hb dX5_join_124 rfl (lv_at hl 4 rfl) ?_
                  refine lv_iload hx hb dX5_join_125 (lv_at hl 5 rfl) ?_
                  refine lv_icmp_ne (tgt := 134) hx hb dX5_join_127 (by decide) (fun c_26 => absurd (by decide) c_26) (fun _ => ?_)
                  refine lv_iload_n hx hb dX5_join_130 rfl (lv_at hl 4 rfl) ?_
                  refine lv_if_ge (tgt := 138) hx hb dX5_join_131 (by decide) (fun c_27 => absurd c_27 (by decide)) (fun _ => ?_)
                  refine lv_iconst (v := 1) hx hb dX5_join_134 (by decide) ?_
                  refine lv_goto (tgt := 139) hx hb dX5_join_135 (by decide) ?_
                  refine lv_istore (lv' := [(6, .int 1), (5, .int (k_b pl)), (0, .ref (ad 13 0)), (1, .int (nI i3)), (2, .int (nI i6)), (3, .int ((-1))), (4, .int ((-1)))]) hx hb dX5_join_139 hl (by decide) rfl (fun ls hl => ?_)
                  exact join141 true (by simp [mUnl, c_1, hk3, hn3, hm3, c_4, hk6, hn6, hm6, hk8, hk10, hpl, c_21, c_22, c_23]) _ _ hW hS ls (lv_sub hl [0, 1, 2, 3, 4, 5, 6] rfl)
          refine lv_aload_n hx hb dX5_join_48 rfl (lv_at hl 0 rfl) ?_
          refine lv_iload_n hx hb dX5_join_49 rfl (lv_at hl 1 rfl) ?_
          refine w_cV1 X hS (m_X5_isPlain l G ad nA nK mA mK E I J i3 hs (by first | assumption | omega)) rfl rfl g619 g4 g616 g618 p31 hd_X5_isPlain ⟨Nat.le_of_ble_eq_true rfl, Nat.le_of_ble_eq_true rfl⟩ (k_rec X hW 13 0 Nat.zero_lt_one rfl rfl) hW hl.1 rfl (Nat.le_of_ble_eq_true rfl) dX5_join_50 (Nat.zero_le _) (Nat.zero_le _) (fun H locs hW hS => ?_)
          refine lb_if_eq (tgt := 94) hx hb dX5_join_53 (by decide) (fun c_28 => ?_) (fun c_28 => ?_)
          · skip
            refine lv_iconst (v := 0) hx hb dX5_join_94 (by decide) ?_
            refine lv_istore (lv' := [(5, .int 0), (0, .ref (ad 13 0)), (1, .int (nI i3)), (2, .int (nI i6)), (3, .int ((-1))), (4, .int ((-1)))]) hx hb dX5_join_95 hl (by decide) rfl (fun ls hl => ?_)
            exact join97 false (by simp [mPlX, c_1, hk3, hn3, hm3, c_4, hk6, hn6, hm6, hk8, hk10, c_28]) _ _ hW hS ls (lv_sub hl [0, 1, 2, 3, 4, 5] rfl)
          · skip
            refine lv_aload_n hx hb dX5_join_56 rfl (lv_at hl 0 rfl) ?_
            refine lv_iload_n hx hb dX5_join_57 rfl (lv_at hl 2 rfl) ?_
            refine w_cV1 X hS (m_X5_isPlain l G ad nA nK mA mK E I J i6 hs (by first | assumption | omega)) rfl rfl g619 g4 g616 g618 p31 hd_X5_isPlain ⟨Nat.le_of_ble_eq_true rfl, Nat.le_of_ble_eq_true rfl⟩ (k_rec X hW 13 0 Nat.zero_lt_one rfl rfl) hW hl.1 rfl (Nat.le_of_ble_eq_true rfl) dX5_join_58 (Nat.zero_le _) (Nat.zero_le _) (fun H locs hW hS => ?_)
            refine lb_if_eq (tgt := 94) hx hb dX5_join_61 (by decide) (fun c_29 => ?_) (fun c_29 => ?_)
            · skip
              refine lv_iconst (v := 0) hx hb dX5_join_94 (by decide) ?_
              refine lv_istore (lv' := [(5, .int 0), (0, .ref (ad 13 0)), (1, .int (nI i3)), (2, .int (nI i6)), (3, .int ((-1))), (4, .int ((-1)))]) hx hb dX5_join_95 hl (by decide) rfl (fun ls hl => ?_)
              exact join97 false (by simp [mPlX, c_1, hk3, hn3, hm3, c_4, hk6, hn6, hm6, hk8, hk10, c_28, c_29]) _ _ hW hS ls (lv_sub hl [0, 1, 2, 3, 4, 5] rfl)
            · skip
              refine lv_iload_n hx hb dX5_join_64 rfl (lv_at hl 3 rfl) ?_
              refine lv_if_lt (tgt := 76) hx hb dX5_join_65 (by decide) (fun _ => ?_) (fun c_30 => absurd (by decide) c_30)
              refine lv_iload hx hb dX5_join_76 (lv_at hl 4 rfl) ?_
              refine lv_if_lt (tgt := 90) hx hb dX5_join_78 (by decide) (fun _ => ?_) (fun c_31 => absurd (by decide) c_31)
              refine lv_iconst (v := 1) hx hb dX5_join_90 (by decide) ?_
              refine lv_goto (tgt := 95) hx hb dX5_join_91 (by decide) ?_
              refine lv_istore (lv' := [(5, .int 1), (0, .ref (ad 13 0)), (1, .int (nI i3)), (2, .int (nI i6)), (3, .int ((-1))), (4, .int ((-1)))]) hx hb dX5_join_95 hl (by decide) rfl (fun ls hl => ?_)
              exact join97 true (by simp [mPlX, c_1, hk3, hn3, hm3, c_4, hk6, hn6, hm6, hk8, hk10, c_28, c_29]) _ _ hW hS ls (lv_sub hl [0, 1, 2, 3, 4, 5] rfl)
        · skip
          refine lv_aload_n hx hb dX5_join_35 rfl (lv_at hl 0 rfl) ?_
          refine lv_iload hx hb dX5_join_36 (lv_at hl 4 rfl) ?_
          refine w_cV1 X hS (m_X5_is l G ad nA nK mA mK E I J d9 hs) rfl rfl g615 g4 g612 g614 p30 hd_X5_is ⟨Nat.le_of_ble_eq_true rfl, Nat.le_of_ble_eq_true rfl⟩ (k_rec X hW 13 0 Nat.zero_lt_one rfl rfl) hW hl.1 rfl (Nat.le_of_ble_eq_true rfl) dX5_join_38 (Nat.zero_le _) (Nat.zero_le _) (fun H locs hW hS => ?_)
          refine lb_if_ne (tgt := 48) hx hb dX5_join_41 (by decide) (fun c_32 => ?_) (fun c_32 => ?_)
          · skip
            obtain ⟨i33, hi33, rfl⟩ := mIs_nat (by omega) c_32
            have hk33 : kAns mA (nI i33) = some i33 := kAns_lt hi33 (by omega)
            have hn33 : ¬ nI i33 < 0 := nI_pos (by omega)
            have hm33 : (0 : Int32) ≤ nI i33 := Int32.not_lt.mp hn33
            have hl : lv_has ls 8 [(0, .ref (ad 13 0)), (1, .int (nI i3)), (2, .int (nI i6)), (3, .int ((-1))), (4, .int (nI i33))] := hl
            have join97 : ∀ (pl : Bool), (pl = (mPlX mA I (nI i3) && (mPlX mA I (nI i6) && (mPlX mA I (-1) && mPlX mA I (nI i33))))) → ∀ (H : Heap) (locs : List Loc), Wd G ad nA nK I J H → va_S (k_A G) s.heap H locs → ∀ ls : Array Slot, lv_has ls 8 [(5, .int (k_b pl)), (0, .ref (ad 13 0)), (1, .int (nI i3)), (2, .int (nI i6)), (3, .int ((-1))), (4, .int (nI i33))] → W p l e { frames := 2, cells := 0, slots := 0, locals := 46 } s m ([.ref (ad 13 0), .int (nI i3), .int (nI i6), .int (-1), .int (nI i33)] : List Value).toArray below meth c H locs 0 0 (MQ below (k_Q G (some (.int ((mcJoin mA (nI i3) (nI i6) (-1) (nI i33) (I, J)).1))) (Wd G ad nA nK ((mcJoin mA (nI i3) (nI i6) (-1) (nI i33) (I, J)).2.1) ((mcJoin mA (nI i3) (nI i6) (-1) (nI i33) (I, J)).2.2))) ([.ref (ad 13 0), .int (nI i3), .int (nI i6), .int (-1), .int (nI i33)] : List Value).toArray s 0 0 (k_A G)) (F0 m 97 ls []) := by
              intro pl hpl H locs hW hS ls hl
              have join141 : ∀ (un : Bool), (un = mUnl (nI i3) (nI i6) (-1) (nI i33)) → ∀ (H : Heap) (locs : List Loc), Wd G ad nA nK I J H → va_S (k_A G) s.heap H locs → ∀ ls : Array Slot, lv_has ls 8 [(6, .int (k_b un)), (5, .int (k_b pl)), (0, .ref (ad 13 0)), (1, .int (nI i3)), (2, .int (nI i6)), (3, .int ((-1))), (4, .int (nI i33))] → W p l e { frames := 2, cells := 0, slots := 0, locals := 46 } s m ([.ref (ad 13 0), .int (nI i3), .int (nI i6), .int (-1), .int (nI i33)] : List Value).toArray below meth c H locs 0 0 (MQ below (k_Q G (some (.int ((mcJoin mA (nI i3) (nI i6) (-1) (nI i33) (I, J)).1))) (Wd G ad nA nK ((mcJoin mA (nI i3) (nI i6) (-1) (nI i33) (I, J)).2.1) ((mcJoin mA (nI i3) (nI i6) (-1) (nI i33) (I, J)).2.2))) ([.ref (ad 13 0), .int (nI i3), .int (nI i6), .int (-1), .int (nI i33)] : List Value).toArray s 0 0 (k_A G)) (F0 m 141 ls []) := by
                intro un hun H locs hW hS ls hl
                refine lv_iload hx hb dX5_join_141 (lv_at hl 1 rfl) ?_
                refine lb_if_eq (tgt := 160) hx hb dX5_join_143 (by decide) (fun c_34 => ?_) (fun c_34 => ?_)
                · skip
                  refine lv_sipush (v := (-1003)) hx hb dX5_join_160 (by decide) ?_
                  exact w_iret X hr hlk hS (by simp only [mcJoin]; rw [← hpl, ← hun]; simp [c_1, hk3, hn3, hm3, c_4, hk6, hn6, hm6, hk8, c_9, c_32, hk33, hn33, hm33, c_34]) (hW.to (by simp only [mcJoin]; rw [← hpl, ← hun]; simp [c_1, hk3, hn3, hm3, c_4, hk6, hn6, hm6, hk8, c_9, c_32, hk33, hn33, hm33, c_34]) (by simp only [mcJoin]; rw [← hpl, ← hun]; simp [c_1, hk3, hn3, hm3, c_4, hk6, hn6, hm6, hk8, c_9, c_32, hk33, hn33, hm33, c_34])) dX5_join_163
                · skip
                  refine lv_iload hx hb dX5_join_146 (lv_at hl 0 rfl) ?_
                  refine lb_if_eq (tgt := 160) hx hb dX5_join_148 (by decide) (fun c_35 => ?_) (fun c_35 => ?_)
                  · skip
                    refine lv_sipush (v := (-1003)) hx hb dX5_join_160 (by decide) ?_
                    exact w_iret X hr hlk hS (by simp only [mcJoin]; rw [← hpl, ← hun]; simp [c_1, hk3, hn3, hm3, c_4, hk6, hn6, hm6, hk8, c_9, c_32, hk33, hn33, hm33, c_34, c_35]) (hW.to (by simp only [mcJoin]; rw [← hpl, ← hun]; simp [c_1, hk3, hn3, hm3, c_4, hk6, hn6, hm6, hk8, c_9, c_32, hk33, hn33, hm33, c_34, c_35]) (by simp only [mcJoin]; rw [← hpl, ← hun]; simp [c_1, hk3, hn3, hm3, c_4, hk6, hn6, hm6, hk8, c_9, c_32, hk33, hn33, hm33, c_34, c_35])) dX5_join_163
                  · skip
                    refine lv_iload_n hx hb dX5_join_151 rfl (lv_at hl 5 rfl) ?_
                    refine lv_if_ge (tgt := 164) hx hb dX5_join_152 (by decide) (fun c_36 => absurd c_36 (by decide)) (fun _ => ?_)
                    refine lv_iload hx hb dX5_join_155 (lv_at hl 6 rfl) ?_
                    refine lv_if_lt (tgt := 164) hx hb dX5_join_157 (by decide) (fun c_37 => absurd c_37 (nI_pos (by omega))) (fun _ => ?_)
                    refine lv_sipush (v := (-1003)) hx hb dX5_join_160 (by decide) ?_
                    exact w_iret X hr hlk hS (by simp only [mcJoin]; rw [← hpl, ← hun]; simp [c_1, hk3, hn3, hm3, c_4, hk6, hn6, hm6, hk8, c_9, c_32, hk33, hn33, hm33, c_34, c_35]) (hW.to (by simp only [mcJoin]; rw [← hpl, ← hun]; simp [c_1, hk3, hn3, hm3, c_4, hk6, hn6, hm6, hk8, c_9, c_32, hk33, hn33, hm33, c_34, c_35]) (by simp only [mcJoin]; rw [← hpl, ← hun]; simp [c_1, hk3, hn3, hm3, c_4, hk6, hn6, hm6, hk8, c_9, c_32, hk33, hn33, hm33, c_34, c_35])) dX5_join_163
              refine lv_iload_n hx hb dX5_join_97 rfl (lv_at hl 2 rfl) ?_
              refine lv_iload_n hx hb dX5_join_98 rfl (lv_at hl 3 rfl) ?_
              refine lv_icmp_eq (tgt := 138) hx hb dX5_join_99 (by decide) (fun c_38 => ?_) (fun c_38 => ?_)
              · skip
                refine lv_iconst (v := 0) hx hb dX5_join_138 (by decide) ?_
                refine lv_istore (lv' := [(6, .int 0), (5, .int (k_b pl)), (0, .ref (ad 13 0)), (1, .int (nI i3)), (2, .int (nI i6)), (3, .int ((-1))), (4, .int (nI i33))]) hx hb dX5_join_139 hl (by decide) rfl (fun ls hl => ?_)
                exact join141 false (by simp [mUnl, c_1, hk3, hn3, hm3, c_4, hk6, hn6, hm6, hk8, c_9, c_32, hk33, hn33, hm33, hpl, c_38]) _ _ hW hS ls (lv_sub hl [0, 1, 2, 3, 4, 5, 6] rfl)
              · skip
                refine lv_iload_n hx hb dX5_join_102 rfl (lv_at hl 2 rfl) ?_
                refine lv_iload_n hx hb dX5_join_103 rfl (lv_at hl 4 rfl) ?_
                refine lv_icmp_eq (tgt := 138) hx hb dX5_join_104 (by decide) (fun c_39 => ?_) (fun c_39 => ?_)
                · skip
                  refine lv_iconst (v := 0) hx hb dX5_join_138 (by decide) ?_
                  refine lv_istore (lv' := [(6, .int 0), (5, .int (k_b pl)), (0, .ref (ad 13 0)), (1, .int (nI i3)), (2, .int (nI i6)), (3, .int ((-1))), (4, .int (nI i33))]) hx hb dX5_join_139 hl (by decide) rfl (fun ls hl => ?_)
                  exact join141 false (by simp [mUnl, c_1, hk3, hn3, hm3, c_4, hk6, hn6, hm6, hk8, c_9, c_32, hk33, hn33, hm33, hpl, c_38, c_39]) _ _ hW hS ls (lv_sub hl [0, 1, 2, 3, 4, 5, 6] rfl)
                · skip
                  refine lv_iload_n hx hb dX5_join_107 rfl (lv_at hl 3 rfl) ?_
                  refine lv_iload_n hx hb dX5_join_108 rfl (lv_at hl 4 rfl) ?_
                  refine lv_icmp_eq (tgt := 138) hx hb dX5_join_109 (by decide) (fun c_40 => ?_) (fun c_40 => ?_)
                  · skip
                    refine lv_iconst (v := 0) hx hb dX5_join_138 (by decide) ?_
                    refine lv_istore (lv' := [(6, .int 0), (5, .int (k_b pl)), (0, .ref (ad 13 0)), (1, .int (nI i3)), (2, .int (nI i6)), (3, .int ((-1))), (4, .int (nI i33))]) hx hb dX5_join_139 hl (by decide) rfl (fun ls hl => ?_)
                    exact join141 false (by simp [mUnl, c_1, hk3, hn3, hm3, c_4, hk6, hn6, hm6, hk8, c_9, c_32, hk33, hn33, hm33, hpl, c_38, c_39, c_40]) _ _ hW hS ls (lv_sub hl [0, 1, 2, 3, 4, 5, 6] rfl)
                  · skip
                    refine lv_iload_n hx hb dX5_join_112 rfl (lv_at hl 2 rfl) ?_
                    refine lv_iload hx hb dX5_join_113 (lv_at hl 5 rfl) ?_
                    refine lv_icmp_eq (tgt := 138) hx hb dX5_join_115 (by decide) (fun c_41 => ?_) (fun c_41 => ?_)
                    · skip
                      refine lv_iconst (v := 0) hx hb dX5_join_138 (by decide) ?_
                      refine lv_istore (lv' := [(6, .int 0), (5, .int (k_b pl)), (0, .ref (ad 13 0)), (1, .int (nI i3)), (2, .int (nI i6)), (3, .int ((-1))), (4, .int (nI i33))]) hx hb dX5_join_139 hl (by decide) rfl (fun ls hl => ?_)
                      exact join141 false (by simp [mUnl, c_1, hk3, hn3, hm3, c_4, hk6, hn6, hm6, hk8, c_9, c_32, hk33, hn33, hm33, hpl, c_38, c_39, c_40, c_41]) _ _ hW hS ls (lv_sub hl [0, 1, 2, 3, 4, 5, 6] rfl)
                    · skip
                      refine lv_iload_n hx hb dX5_join_118 rfl (lv_at hl 3 rfl) ?_
                      refine lv_iload hx hb dX5_join_119 (lv_at hl 5 rfl) ?_
                      refine lv_icmp_eq (tgt := 138) hx hb dX5_join_121 (by decide) (fun c_42 => ?_) (fun c_42 => ?_)
                      · skip
                        refine lv_iconst (v := 0) hx hb dX5_join_138 (by decide) ?_
                        refine lv_istore (lv' := [(6, .int 0), (5, .int (k_b pl)), (0, .ref (ad 13 0)), (1, .int (nI i3)), (2, .int (nI i6)), (3, .int ((-1))), (4, .int (nI i33))]) hx hb dX5_join_139 hl (by decide) rfl (fun ls hl => ?_)
                        exact join141 false (by simp [mUnl, c_1, hk3, hn3, hm3, c_4, hk6, hn6, hm6, hk8, c_9, c_32, hk33, hn33, hm33, hpl, c_38, c_39, c_40, c_41, c_42]) _ _ hW hS ls (lv_sub hl [0, 1, 2, 3, 4, 5, 6] rfl)
                      · skip
                        refine lv_iload_n hx hb dX5_join_124 rfl (lv_at hl 4 rfl) ?_
                        refine lv_iload hx hb dX5_join_125 (lv_at hl 5 rfl) ?_
                        refine lv_icmp_ne (tgt := 134) hx hb dX5_join_127 (by decide) (fun c_43 => ?_) (fun c_43 => ?_)
                        · skip
                          refine lv_iconst (v := 1) hx hb dX5_join_134 (by decide) ?_
                          refine lv_goto (tgt := 139) hx hb dX5_join_135 (by decide) ?_
                          refine lv_istore (lv' := [(6, .int 1), (5, .int (k_b pl)), (0, .ref (ad 13 0)), (1, .int (nI i3)), (2, .int (nI i6)), (3, .int ((-1))), (4, .int (nI i33))]) hx hb dX5_join_139 hl (by decide) rfl (fun ls hl => ?_)
                          exact join141 true (by simp [mUnl, c_1, hk3, hn3, hm3, c_4, hk6, hn6, hm6, hk8, c_9, c_32, hk33, hn33, hm33, hpl, c_38, c_39, c_40, c_41, c_42, c_43]) _ _ hW hS ls (lv_sub hl [0, 1, 2, 3, 4, 5, 6] rfl)
                        · skip
                          refine lv_iload_n hx hb dX5_join_130 rfl (lv_at hl 4 rfl) ?_
                          refine lv_if_ge (tgt := 138) hx hb dX5_join_131 (by decide) (fun c_44 => absurd c_44 (by decide)) (fun _ => ?_)
                          refine lv_iconst (v := 1) hx hb dX5_join_134 (by decide) ?_
                          refine lv_goto (tgt := 139) hx hb dX5_join_135 (by decide) ?_
                          refine lv_istore (lv' := [(6, .int 1), (5, .int (k_b pl)), (0, .ref (ad 13 0)), (1, .int (nI i3)), (2, .int (nI i6)), (3, .int ((-1))), (4, .int (nI i33))]) hx hb dX5_join_139 hl (by decide) rfl (fun ls hl => ?_)
                          exact join141 true (absurd c_43.symm c_9) _ _ hW hS ls (lv_sub hl [0, 1, 2, 3, 4, 5, 6] rfl)
            refine lv_aload_n hx hb dX5_join_48 rfl (lv_at hl 0 rfl) ?_
            refine lv_iload_n hx hb dX5_join_49 rfl (lv_at hl 1 rfl) ?_
            refine w_cV1 X hS (m_X5_isPlain l G ad nA nK mA mK E I J i3 hs (by first | assumption | omega)) rfl rfl g619 g4 g616 g618 p31 hd_X5_isPlain ⟨Nat.le_of_ble_eq_true rfl, Nat.le_of_ble_eq_true rfl⟩ (k_rec X hW 13 0 Nat.zero_lt_one rfl rfl) hW hl.1 rfl (Nat.le_of_ble_eq_true rfl) dX5_join_50 (Nat.zero_le _) (Nat.zero_le _) (fun H locs hW hS => ?_)
            refine lb_if_eq (tgt := 94) hx hb dX5_join_53 (by decide) (fun c_45 => ?_) (fun c_45 => ?_)
            · skip
              refine lv_iconst (v := 0) hx hb dX5_join_94 (by decide) ?_
              refine lv_istore (lv' := [(5, .int 0), (0, .ref (ad 13 0)), (1, .int (nI i3)), (2, .int (nI i6)), (3, .int ((-1))), (4, .int (nI i33))]) hx hb dX5_join_95 hl (by decide) rfl (fun ls hl => ?_)
              exact join97 false (by simp [mPlX, c_1, hk3, hn3, hm3, c_4, hk6, hn6, hm6, hk8, c_9, c_32, hk33, hn33, hm33, c_45]) _ _ hW hS ls (lv_sub hl [0, 1, 2, 3, 4, 5] rfl)
            · skip
              refine lv_aload_n hx hb dX5_join_56 rfl (lv_at hl 0 rfl) ?_
              refine lv_iload_n hx hb dX5_join_57 rfl (lv_at hl 2 rfl) ?_
              refine w_cV1 X hS (m_X5_isPlain l G ad nA nK mA mK E I J i6 hs (by first | assumption | omega)) rfl rfl g619 g4 g616 g618 p31 hd_X5_isPlain ⟨Nat.le_of_ble_eq_true rfl, Nat.le_of_ble_eq_true rfl⟩ (k_rec X hW 13 0 Nat.zero_lt_one rfl rfl) hW hl.1 rfl (Nat.le_of_ble_eq_true rfl) dX5_join_58 (Nat.zero_le _) (Nat.zero_le _) (fun H locs hW hS => ?_)
              refine lb_if_eq (tgt := 94) hx hb dX5_join_61 (by decide) (fun c_46 => ?_) (fun c_46 => ?_)
              · skip
                refine lv_iconst (v := 0) hx hb dX5_join_94 (by decide) ?_
                refine lv_istore (lv' := [(5, .int 0), (0, .ref (ad 13 0)), (1, .int (nI i3)), (2, .int (nI i6)), (3, .int ((-1))), (4, .int (nI i33))]) hx hb dX5_join_95 hl (by decide) rfl (fun ls hl => ?_)
                exact join97 false (by simp [mPlX, c_1, hk3, hn3, hm3, c_4, hk6, hn6, hm6, hk8, c_9, c_32, hk33, hn33, hm33, c_45, c_46]) _ _ hW hS ls (lv_sub hl [0, 1, 2, 3, 4, 5] rfl)
              · skip
                refine lv_iload_n hx hb dX5_join_64 rfl (lv_at hl 3 rfl) ?_
                refine lv_if_lt (tgt := 76) hx hb dX5_join_65 (by decide) (fun _ => ?_) (fun c_47 => absurd (by decide) c_47)
                refine lv_iload hx hb dX5_join_76 (lv_at hl 4 rfl) ?_
                refine lv_if_lt (tgt := 90) hx hb dX5_join_78 (by decide) (fun c_48 => absurd c_48 (nI_pos (by omega))) (fun _ => ?_)
                refine lv_aload_n hx hb dX5_join_81 rfl (lv_at hl 0 rfl) ?_
                refine lv_iload hx hb dX5_join_82 (lv_at hl 4 rfl) ?_
                refine w_cV1 X hS (m_X5_isPlain l G ad nA nK mA mK E I J i33 hs (by first | assumption | omega)) rfl rfl g619 g4 g616 g618 p31 hd_X5_isPlain ⟨Nat.le_of_ble_eq_true rfl, Nat.le_of_ble_eq_true rfl⟩ (k_rec X hW 13 0 Nat.zero_lt_one rfl rfl) hW hl.1 rfl (Nat.le_of_ble_eq_true rfl) dX5_join_84 (Nat.zero_le _) (Nat.zero_le _) (fun H locs hW hS => ?_)
                refine lb_if_eq (tgt := 94) hx hb dX5_join_87 (by decide) (fun c_49 => ?_) (fun c_49 => ?_)
                · skip
                  refine lv_iconst (v := 0) hx hb dX5_join_94 (by decide) ?_
                  refine lv_istore (lv' := [(5, .int 0), (0, .ref (ad 13 0)), (1, .int (nI i3)), (2, .int (nI i6)), (3, .int ((-1))), (4, .int (nI i33))]) hx hb dX5_join_95 hl (by decide) rfl (fun ls hl => ?_)
                  exact join97 false (by simp [mPlX, c_1, hk3, hn3, hm3, c_4, hk6, hn6, hm6, hk8, c_9, c_32, hk33, hn33, hm33, c_45, c_46, c_49]) _ _ hW hS ls (lv_sub hl [0, 1, 2, 3, 4, 5] rfl)
                · skip
                  refine lv_iconst (v := 1) hx hb dX5_join_90 (by decide) ?_
                  refine lv_goto (tgt := 95) hx hb dX5_join_91 (by decide) ?_
                  refine lv_istore (lv' := [(5, .int 1), (0, .ref (ad 13 0)), (1, .int (nI i3)), (2, .int (nI i6)), (3, .int ((-1))), (4, .int (nI i33))]) hx hb dX5_join_95 hl (by decide) rfl (fun ls hl => ?_)
                  exact join97 true (by simp [mPlX, c_1, hk3, hn3, hm3, c_4, hk6, hn6, hm6, hk8, c_9, c_32, hk33, hn33, hm33, c_45, c_46, c_49]) _ _ hW hS ls (lv_sub hl [0, 1, 2, 3, 4, 5] rfl)
          · skip
            have hk50 : kAns mA d9 = none := mIs_none (by omega) c_32
            refine lv_sipush (v := (-1001)) hx hb dX5_join_44 (by decide) ?_
            exact w_iret X hr hlk hS (by first | rfl | (simp [mcJoin, mJoI, mw, c_1, hk3, hn3, hm3, c_4, hk6, hn6, hm6, hk8, c_9, c_32, hk50]; done) | (simp [mcJoin, mJoI, mw, c_1, hk3, hn3, hm3, c_4, hk6, hn6, hm6, hk8, c_9, c_32, hk50]; rfl)) (hW.to (by first | rfl | (simp [mcJoin, mJoI, mw, c_1, hk3, hn3, hm3, c_4, hk6, hn6, hm6, hk8, c_9, c_32, hk50]; done)) (by first | rfl | (simp [mcJoin, mJoI, mw, c_1, hk3, hn3, hm3, c_4, hk6, hn6, hm6, hk8, c_9, c_32, hk50]; done))) dX5_join_47
      · skip
        refine lv_aload_n hx hb dX5_join_21 rfl (lv_at hl 0 rfl) ?_
        refine lv_iload_n hx hb dX5_join_22 rfl (lv_at hl 3 rfl) ?_
        refine w_cV1 X hS (m_X5_is l G ad nA nK mA mK E I J c9 hs) rfl rfl g615 g4 g612 g614 p30 hd_X5_is ⟨Nat.le_of_ble_eq_true rfl, Nat.le_of_ble_eq_true rfl⟩ (k_rec X hW 13 0 Nat.zero_lt_one rfl rfl) hW hl.1 rfl (Nat.le_of_ble_eq_true rfl) dX5_join_23 (Nat.zero_le _) (Nat.zero_le _) (fun H locs hW hS => ?_)
        refine lb_if_eq (tgt := 44) hx hb dX5_join_26 (by decide) (fun c_51 => ?_) (fun c_51 => ?_)
        · skip
          have hk52 : kAns mA c9 = none := mIs_none (by omega) c_51
          refine lv_sipush (v := (-1001)) hx hb dX5_join_44 (by decide) ?_
          exact w_iret X hr hlk hS (by first | rfl | (simp [mcJoin, mJoI, mw, c_1, hk3, hn3, hm3, c_4, hk6, hn6, hm6, c_7, c_51, hk52]; done) | (simp [mcJoin, mJoI, mw, c_1, hk3, hn3, hm3, c_4, hk6, hn6, hm6, c_7, c_51, hk52]; rfl)) (hW.to (by first | rfl | (simp [mcJoin, mJoI, mw, c_1, hk3, hn3, hm3, c_4, hk6, hn6, hm6, c_7, c_51, hk52]; done)) (by first | rfl | (simp [mcJoin, mJoI, mw, c_1, hk3, hn3, hm3, c_4, hk6, hn6, hm6, c_7, c_51, hk52]; done))) dX5_join_47
        · skip
          obtain ⟨i53, hi53, rfl⟩ := mIs_nat (by omega) c_51
          have hk53 : kAns mA (nI i53) = some i53 := kAns_lt hi53 (by omega)
          have hn53 : ¬ nI i53 < 0 := nI_pos (by omega)
          have hm53 : (0 : Int32) ≤ nI i53 := Int32.not_lt.mp hn53
          have hl : lv_has ls 8 [(0, .ref (ad 13 0)), (1, .int (nI i3)), (2, .int (nI i6)), (3, .int (nI i53)), (4, .int d9)] := hl
          refine lv_iload hx hb dX5_join_29 (lv_at hl 4 rfl) ?_
          refine lv_iconst (v := (-1)) hx hb dX5_join_31 (by decide) ?_
          refine lv_icmp_eq (tgt := 48) hx hb dX5_join_32 (by decide) (fun c_54 => ?_) (fun c_54 => ?_)
          · skip
            subst c_54
            have hk55 : kAns mA (-1) = none := rfl
            have hl : lv_has ls 8 [(0, .ref (ad 13 0)), (1, .int (nI i3)), (2, .int (nI i6)), (3, .int (nI i53)), (4, .int ((-1)))] := hl
            have join97 : ∀ (pl : Bool), (pl = (mPlX mA I (nI i3) && (mPlX mA I (nI i6) && (mPlX mA I (nI i53) && mPlX mA I (-1))))) → ∀ (H : Heap) (locs : List Loc), Wd G ad nA nK I J H → va_S (k_A G) s.heap H locs → ∀ ls : Array Slot, lv_has ls 8 [(5, .int (k_b pl)), (0, .ref (ad 13 0)), (1, .int (nI i3)), (2, .int (nI i6)), (3, .int (nI i53)), (4, .int ((-1)))] → W p l e { frames := 2, cells := 0, slots := 0, locals := 46 } s m ([.ref (ad 13 0), .int (nI i3), .int (nI i6), .int (nI i53), .int (-1)] : List Value).toArray below meth c H locs 0 0 (MQ below (k_Q G (some (.int ((mcJoin mA (nI i3) (nI i6) (nI i53) (-1) (I, J)).1))) (Wd G ad nA nK ((mcJoin mA (nI i3) (nI i6) (nI i53) (-1) (I, J)).2.1) ((mcJoin mA (nI i3) (nI i6) (nI i53) (-1) (I, J)).2.2))) ([.ref (ad 13 0), .int (nI i3), .int (nI i6), .int (nI i53), .int (-1)] : List Value).toArray s 0 0 (k_A G)) (F0 m 97 ls []) := by
              intro pl hpl H locs hW hS ls hl
              have join141 : ∀ (un : Bool), (un = mUnl (nI i3) (nI i6) (nI i53) (-1)) → ∀ (H : Heap) (locs : List Loc), Wd G ad nA nK I J H → va_S (k_A G) s.heap H locs → ∀ ls : Array Slot, lv_has ls 8 [(6, .int (k_b un)), (5, .int (k_b pl)), (0, .ref (ad 13 0)), (1, .int (nI i3)), (2, .int (nI i6)), (3, .int (nI i53)), (4, .int ((-1)))] → W p l e { frames := 2, cells := 0, slots := 0, locals := 46 } s m ([.ref (ad 13 0), .int (nI i3), .int (nI i6), .int (nI i53), .int (-1)] : List Value).toArray below meth c H locs 0 0 (MQ below (k_Q G (some (.int ((mcJoin mA (nI i3) (nI i6) (nI i53) (-1) (I, J)).1))) (Wd G ad nA nK ((mcJoin mA (nI i3) (nI i6) (nI i53) (-1) (I, J)).2.1) ((mcJoin mA (nI i3) (nI i6) (nI i53) (-1) (I, J)).2.2))) ([.ref (ad 13 0), .int (nI i3), .int (nI i6), .int (nI i53), .int (-1)] : List Value).toArray s 0 0 (k_A G)) (F0 m 141 ls []) := by
                intro un hun H locs hW hS ls hl
                refine lv_iload hx hb dX5_join_141 (lv_at hl 1 rfl) ?_
                refine lb_if_eq (tgt := 160) hx hb dX5_join_143 (by decide) (fun c_56 => ?_) (fun c_56 => ?_)
                · skip
                  refine lv_sipush (v := (-1003)) hx hb dX5_join_160 (by decide) ?_
                  exact w_iret X hr hlk hS (by simp only [mcJoin]; rw [← hpl, ← hun]; simp [c_1, hk3, hn3, hm3, c_4, hk6, hn6, hm6, c_7, c_51, hk53, hn53, hm53, hk55, c_56]) (hW.to (by simp only [mcJoin]; rw [← hpl, ← hun]; simp [c_1, hk3, hn3, hm3, c_4, hk6, hn6, hm6, c_7, c_51, hk53, hn53, hm53, hk55, c_56]) (by simp only [mcJoin]; rw [← hpl, ← hun]; simp [c_1, hk3, hn3, hm3, c_4, hk6, hn6, hm6, c_7, c_51, hk53, hn53, hm53, hk55, c_56])) dX5_join_163
                · skip
                  refine lv_iload hx hb dX5_join_146 (lv_at hl 0 rfl) ?_
                  refine lb_if_eq (tgt := 160) hx hb dX5_join_148 (by decide) (fun c_57 => ?_) (fun c_57 => ?_)
                  · skip
                    refine lv_sipush (v := (-1003)) hx hb dX5_join_160 (by decide) ?_
                    exact w_iret X hr hlk hS (by simp only [mcJoin]; rw [← hpl, ← hun]; simp [c_1, hk3, hn3, hm3, c_4, hk6, hn6, hm6, c_7, c_51, hk53, hn53, hm53, hk55, c_56, c_57]) (hW.to (by simp only [mcJoin]; rw [← hpl, ← hun]; simp [c_1, hk3, hn3, hm3, c_4, hk6, hn6, hm6, c_7, c_51, hk53, hn53, hm53, hk55, c_56, c_57]) (by simp only [mcJoin]; rw [← hpl, ← hun]; simp [c_1, hk3, hn3, hm3, c_4, hk6, hn6, hm6, c_7, c_51, hk53, hn53, hm53, hk55, c_56, c_57])) dX5_join_163
                  · skip
                    refine lv_iload_n hx hb dX5_join_151 rfl (lv_at hl 5 rfl) ?_
                    refine lv_if_ge (tgt := 164) hx hb dX5_join_152 (by decide) (fun _ => ?_) (fun c_58 => absurd (nI_pos' (by omega)) c_58)
                    refine lv_aload_n hx hb dX5_join_164 rfl (lv_at hl 2 rfl) ?_
                    refine w_get (v := .int (nI mA)) X hW 13 0 Nat.zero_lt_one rfl rfl inG5 6 (by decide) g504 (congrArg (fun z => some (Value.int z)) hs.1) dX5_join_165 ?_
                    refine lv_bipush (v := 24) hx hb dX5_join_168 (by decide) ?_
                    refine lv_icmp_ne (tgt := 177) hx hb dX5_join_170 (by decide) (fun c_59 => ?_) (fun c_59 => ?_)
                    · skip
                      have h24 : mA < 24 := nI_full (N := 24) (by omega) (by decide) rfl c_59
                      refine lv_aload_n hx hb dX5_join_177 rfl (lv_at hl 2 rfl) ?_
                      refine lv_iconst (v := 1) hx hb dX5_join_178 (by decide) ?_
                      refine w_cV1 X hS (m_X5_fresh l G ad nA nK mA mK E I J 1 hs (by first | assumption | omega)) rfl rfl g607 g4 g604 g606 p29 hd_X5_fresh ⟨Nat.le_of_ble_eq_true rfl, Nat.le_of_ble_eq_true rfl⟩ (k_rec X hW 13 0 Nat.zero_lt_one rfl rfl) hW hl.1 rfl (Nat.le_of_ble_eq_true rfl) dX5_join_179 (Nat.zero_le _) (Nat.zero_le _) (fun H locs hW hS => ?_)
                      obtain ⟨I60, eI60⟩ : ∃ z, z = mFr mA 1 I := ⟨_, rfl⟩
                      rw [← eI60] at hW
                      obtain ⟨J60, eJ60⟩ : ∃ z, z = mFrJ mA J := ⟨_, rfl⟩
                      rw [← eJ60] at hW
                      refine lv_istore (lv' := [(7, .int (nI mA)), (6, .int (k_b un)), (5, .int (k_b pl)), (0, .ref (ad 13 0)), (1, .int (nI i3)), (2, .int (nI i6)), (3, .int (nI i53)), (4, .int ((-1)))]) hx hb dX5_join_182 hl (by decide) rfl (fun ls hl => ?_)
                      refine lv_aload_n hx hb dX5_join_184 rfl (lv_at hl 3 rfl) ?_
                      refine w_get X hW 13 0 Nat.zero_lt_one rfl rfl inG5 15 (by decide) g513 rfl dX5_join_185 ?_
                      refine lv_iconst (v := 4) hx hb dX5_join_188 (by decide) ?_
                      refine lv_iload hx hb dX5_join_189 (lv_at hl 0 rfl) ?_
                      refine lw_imulN (a := 4) (b := mA) hx hb dX5_join_191 ?_
                      refine lv_iload_n hx hb dX5_join_192 rfl (lv_at hl 4 rfl) ?_
                      refine w_iastN (i := 4 * mA) X hW hS 35 0 Nat.zero_lt_one rfl (by omega) rfl dX5_join_193 (fun H locs hW hS => ?_)
                      obtain ⟨I61, eI61⟩ : ∃ z, z = k_up I60 35 0 (upd (I60 35 0) (4 * mA) (nI i3)) := ⟨_, rfl⟩
                      rw [← eI61] at hW
                      refine lv_aload_n hx hb dX5_join_194 rfl (lv_at hl 3 rfl) ?_
                      refine w_get X hW 13 0 Nat.zero_lt_one rfl rfl inG5 15 (by decide) g513 rfl dX5_join_195 ?_
                      refine lv_iconst (v := 4) hx hb dX5_join_198 (by decide) ?_
                      refine lv_iload hx hb dX5_join_199 (lv_at hl 0 rfl) ?_
                      refine lw_imulN (a := 4) (b := mA) hx hb dX5_join_201 ?_
                      refine lv_iconst (v := 1) hx hb dX5_join_202 (by decide) ?_
                      refine lw_iaddN (a := 4 * mA) (b := 1) hx hb dX5_join_203 ?_
                      refine lv_iload_n hx hb dX5_join_204 rfl (lv_at hl 5 rfl) ?_
                      refine w_iastN (i := 4 * mA + 1) X hW hS 35 0 Nat.zero_lt_one rfl (by omega) rfl dX5_join_205 (fun H locs hW hS => ?_)
                      obtain ⟨I62, eI62⟩ : ∃ z, z = k_up I61 35 0 (upd (I61 35 0) (4 * mA + 1) (nI i6)) := ⟨_, rfl⟩
                      rw [← eI62] at hW
                      refine lv_aload_n hx hb dX5_join_206 rfl (lv_at hl 3 rfl) ?_
                      refine w_get X hW 13 0 Nat.zero_lt_one rfl rfl inG5 15 (by decide) g513 rfl dX5_join_207 ?_
                      refine lv_iconst (v := 4) hx hb dX5_join_210 (by decide) ?_
                      refine lv_iload hx hb dX5_join_211 (lv_at hl 0 rfl) ?_
                      refine lw_imulN (a := 4) (b := mA) hx hb dX5_join_213 ?_
                      refine lv_iconst (v := 2) hx hb dX5_join_214 (by decide) ?_
                      refine lw_iaddN (a := 4 * mA) (b := 2) hx hb dX5_join_215 ?_
                      refine lv_iload_n hx hb dX5_join_216 rfl (lv_at hl 6 rfl) ?_
                      refine w_iastN (i := 4 * mA + 2) X hW hS 35 0 Nat.zero_lt_one rfl (by omega) rfl dX5_join_217 (fun H locs hW hS => ?_)
                      obtain ⟨I63, eI63⟩ : ∃ z, z = k_up I62 35 0 (upd (I62 35 0) (4 * mA + 2) (nI i53)) := ⟨_, rfl⟩
                      rw [← eI63] at hW
                      refine lv_aload_n hx hb dX5_join_218 rfl (lv_at hl 3 rfl) ?_
                      refine w_get X hW 13 0 Nat.zero_lt_one rfl rfl inG5 15 (by decide) g513 rfl dX5_join_219 ?_
                      refine lv_iconst (v := 4) hx hb dX5_join_222 (by decide) ?_
                      refine lv_iload hx hb dX5_join_223 (lv_at hl 0 rfl) ?_
                      refine lw_imulN (a := 4) (b := mA) hx hb dX5_join_225 ?_
                      refine lv_iconst (v := 3) hx hb dX5_join_226 (by decide) ?_
                      refine lw_iaddN (a := 4 * mA) (b := 3) hx hb dX5_join_227 ?_
                      refine lv_iload hx hb dX5_join_228 (lv_at hl 7 rfl) ?_
                      refine w_iastN (i := 4 * mA + 3) X hW hS 35 0 Nat.zero_lt_one rfl (by omega) rfl dX5_join_230 (fun H locs hW hS => ?_)
                      obtain ⟨I64, eI64⟩ : ∃ z, z = k_up I63 35 0 (upd (I63 35 0) (4 * mA + 3) (-1)) := ⟨_, rfl⟩
                      rw [← eI64] at hW
                      refine lv_iload hx hb dX5_join_231 (lv_at hl 0 rfl) ?_
                      exact w_iret X hr hlk hS (by simp only [mcJoin]; rw [← hpl, ← hun]; simp [c_1, hk3, hn3, hm3, c_4, hk6, hn6, hm6, c_7, c_51, hk53, hn53, hm53, hk55, c_56, c_57, c_59]) (hW.to (by subst eI64 eI63 eI62 eI61 eI60; simp only [mcJoin]; rw [← hpl, ← hun]; simp [c_1, hk3, hn3, hm3, c_4, hk6, hn6, hm6, c_7, c_51, hk53, hn53, hm53, hk55, c_56, c_57, c_59, mJoI, mw]) (by subst eJ60; simp only [mcJoin]; rw [← hpl, ← hun]; simp [c_1, hk3, hn3, hm3, c_4, hk6, hn6, hm6, c_7, c_51, hk53, hn53, hm53, hk55, c_56, c_57, c_59, mJoI, mw])) dX5_join_233
                    · skip
                      refine lv_sipush (v := (-1004)) hx hb dX5_join_173 (by decide) ?_
                      exact w_iret X hr hlk hS (by simp only [mcJoin]; rw [← hpl, ← hun]; simp [c_1, hk3, hn3, hm3, c_4, hk6, hn6, hm6, c_7, c_51, hk53, hn53, hm53, hk55, c_56, c_57, c_59]) (hW.to (by simp only [mcJoin]; rw [← hpl, ← hun]; simp [c_1, hk3, hn3, hm3, c_4, hk6, hn6, hm6, c_7, c_51, hk53, hn53, hm53, hk55, c_56, c_57, c_59]) (by simp only [mcJoin]; rw [← hpl, ← hun]; simp [c_1, hk3, hn3, hm3, c_4, hk6, hn6, hm6, c_7, c_51, hk53, hn53, hm53, hk55, c_56, c_57, c_59])) dX5_join_176
              refine lv_iload_n hx hb dX5_join_97 rfl (lv_at hl 2 rfl) ?_
              refine lv_iload_n hx hb dX5_join_98 rfl (lv_at hl 3 rfl) ?_
              refine lv_icmp_eq (tgt := 138) hx hb dX5_join_99 (by decide) (fun c_65 => ?_) (fun c_65 => ?_)
              · skip
                refine lv_iconst (v := 0) hx hb dX5_join_138 (by decide) ?_
                refine lv_istore (lv' := [(6, .int 0), (5, .int (k_b pl)), (0, .ref (ad 13 0)), (1, .int (nI i3)), (2, .int (nI i6)), (3, .int (nI i53)), (4, .int ((-1)))]) hx hb dX5_join_139 hl (by decide) rfl (fun ls hl => ?_)
                exact join141 false (by simp [mUnl, c_1, hk3, hn3, hm3, c_4, hk6, hn6, hm6, c_7, c_51, hk53, hn53, hm53, hk55, hpl, c_65]) _ _ hW hS ls (lv_sub hl [0, 1, 2, 3, 4, 5, 6] rfl)
              · skip
                refine lv_iload_n hx hb dX5_join_102 rfl (lv_at hl 2 rfl) ?_
                refine lv_iload_n hx hb dX5_join_103 rfl (lv_at hl 4 rfl) ?_
                refine lv_icmp_eq (tgt := 138) hx hb dX5_join_104 (by decide) (fun c_66 => ?_) (fun c_66 => ?_)
                · skip
                  refine lv_iconst (v := 0) hx hb dX5_join_138 (by decide) ?_
                  refine lv_istore (lv' := [(6, .int 0), (5, .int (k_b pl)), (0, .ref (ad 13 0)), (1, .int (nI i3)), (2, .int (nI i6)), (3, .int (nI i53)), (4, .int ((-1)))]) hx hb dX5_join_139 hl (by decide) rfl (fun ls hl => ?_)
                  exact join141 false (by simp [mUnl, c_1, hk3, hn3, hm3, c_4, hk6, hn6, hm6, c_7, c_51, hk53, hn53, hm53, hk55, hpl, c_65, c_66]) _ _ hW hS ls (lv_sub hl [0, 1, 2, 3, 4, 5, 6] rfl)
                · skip
                  refine lv_iload_n hx hb dX5_join_107 rfl (lv_at hl 3 rfl) ?_
                  refine lv_iload_n hx hb dX5_join_108 rfl (lv_at hl 4 rfl) ?_
                  refine lv_icmp_eq (tgt := 138) hx hb dX5_join_109 (by decide) (fun c_67 => ?_) (fun c_67 => ?_)
                  · skip
                    refine lv_iconst (v := 0) hx hb dX5_join_138 (by decide) ?_
                    refine lv_istore (lv' := [(6, .int 0), (5, .int (k_b pl)), (0, .ref (ad 13 0)), (1, .int (nI i3)), (2, .int (nI i6)), (3, .int (nI i53)), (4, .int ((-1)))]) hx hb dX5_join_139 hl (by decide) rfl (fun ls hl => ?_)
                    exact join141 false (by simp [mUnl, c_1, hk3, hn3, hm3, c_4, hk6, hn6, hm6, c_7, c_51, hk53, hn53, hm53, hk55, hpl, c_65, c_66, c_67]) _ _ hW hS ls (lv_sub hl [0, 1, 2, 3, 4, 5, 6] rfl)
                  · skip
                    refine lv_iload_n hx hb dX5_join_112 rfl (lv_at hl 2 rfl) ?_
                    refine lv_iload hx hb dX5_join_113 (lv_at hl 5 rfl) ?_
                    refine lv_icmp_eq (tgt := 138) hx hb dX5_join_115 (by decide) (fun c_68 => ?_) (fun c_68 => ?_)
                    · skip
                      refine lv_iconst (v := 0) hx hb dX5_join_138 (by decide) ?_
                      refine lv_istore (lv' := [(6, .int 0), (5, .int (k_b pl)), (0, .ref (ad 13 0)), (1, .int (nI i3)), (2, .int (nI i6)), (3, .int (nI i53)), (4, .int ((-1)))]) hx hb dX5_join_139 hl (by decide) rfl (fun ls hl => ?_)
                      exact join141 false (by simp [mUnl, c_1, hk3, hn3, hm3, c_4, hk6, hn6, hm6, c_7, c_51, hk53, hn53, hm53, hk55, hpl, c_65, c_66, c_67, c_68]) _ _ hW hS ls (lv_sub hl [0, 1, 2, 3, 4, 5, 6] rfl)
                    · skip
                      refine lv_iload_n hx hb dX5_join_118 rfl (lv_at hl 3 rfl) ?_
                      refine lv_iload hx hb dX5_join_119 (lv_at hl 5 rfl) ?_
                      refine lv_icmp_eq (tgt := 138) hx hb dX5_join_121 (by decide) (fun c_69 => ?_) (fun c_69 => ?_)
                      · skip
                        refine lv_iconst (v := 0) hx hb dX5_join_138 (by decide) ?_
                        refine lv_istore (lv' := [(6, .int 0), (5, .int (k_b pl)), (0, .ref (ad 13 0)), (1, .int (nI i3)), (2, .int (nI i6)), (3, .int (nI i53)), (4, .int ((-1)))]) hx hb dX5_join_139 hl (by decide) rfl (fun ls hl => ?_)
                        exact join141 false (by simp [mUnl, c_1, hk3, hn3, hm3, c_4, hk6, hn6, hm6, c_7, c_51, hk53, hn53, hm53, hk55, hpl, c_65, c_66, c_67, c_68, c_69]) _ _ hW hS ls (lv_sub hl [0, 1, 2, 3, 4, 5, 6] rfl)
                      · skip
                        refine lv_iload_n hx hb dX5_join_124 rfl (lv_at hl 4 rfl) ?_
                        refine lv_iload hx hb dX5_join_125 (lv_at hl 5 rfl) ?_
                        refine lv_icmp_ne (tgt := 134) hx hb dX5_join_127 (by decide) (fun c_70 => ?_) (fun c_70 => ?_)
                        · skip
                          refine lv_iconst (v := 1) hx hb dX5_join_134 (by decide) ?_
                          refine lv_goto (tgt := 139) hx hb dX5_join_135 (by decide) ?_
                          refine lv_istore (lv' := [(6, .int 1), (5, .int (k_b pl)), (0, .ref (ad 13 0)), (1, .int (nI i3)), (2, .int (nI i6)), (3, .int (nI i53)), (4, .int ((-1)))]) hx hb dX5_join_139 hl (by decide) rfl (fun ls hl => ?_)
                          exact join141 true (by simp [mUnl, c_1, hk3, hn3, hm3, c_4, hk6, hn6, hm6, c_7, c_51, hk53, hn53, hm53, hk55, hpl, c_65, c_66, c_67, c_68, c_69, c_70]) _ _ hW hS ls (lv_sub hl [0, 1, 2, 3, 4, 5, 6] rfl)
                        · skip
                          refine lv_iload_n hx hb dX5_join_130 rfl (lv_at hl 4 rfl) ?_
                          refine lv_if_ge (tgt := 138) hx hb dX5_join_131 (by decide) (fun _ => ?_) (fun c_71 => absurd (nI_pos' (by omega)) c_71)
                          refine lv_iconst (v := 0) hx hb dX5_join_138 (by decide) ?_
                          refine lv_istore (lv' := [(6, .int 0), (5, .int (k_b pl)), (0, .ref (ad 13 0)), (1, .int (nI i3)), (2, .int (nI i6)), (3, .int (nI i53)), (4, .int ((-1)))]) hx hb dX5_join_139 hl (by decide) rfl (fun ls hl => ?_)
                          exact join141 false (absurd c_70 c_7) _ _ hW hS ls (lv_sub hl [0, 1, 2, 3, 4, 5, 6] rfl)
            refine lv_aload_n hx hb dX5_join_48 rfl (lv_at hl 0 rfl) ?_
            refine lv_iload_n hx hb dX5_join_49 rfl (lv_at hl 1 rfl) ?_
            refine w_cV1 X hS (m_X5_isPlain l G ad nA nK mA mK E I J i3 hs (by first | assumption | omega)) rfl rfl g619 g4 g616 g618 p31 hd_X5_isPlain ⟨Nat.le_of_ble_eq_true rfl, Nat.le_of_ble_eq_true rfl⟩ (k_rec X hW 13 0 Nat.zero_lt_one rfl rfl) hW hl.1 rfl (Nat.le_of_ble_eq_true rfl) dX5_join_50 (Nat.zero_le _) (Nat.zero_le _) (fun H locs hW hS => ?_)
            refine lb_if_eq (tgt := 94) hx hb dX5_join_53 (by decide) (fun c_72 => ?_) (fun c_72 => ?_)
            · skip
              refine lv_iconst (v := 0) hx hb dX5_join_94 (by decide) ?_
              refine lv_istore (lv' := [(5, .int 0), (0, .ref (ad 13 0)), (1, .int (nI i3)), (2, .int (nI i6)), (3, .int (nI i53)), (4, .int ((-1)))]) hx hb dX5_join_95 hl (by decide) rfl (fun ls hl => ?_)
              exact join97 false (by simp [mPlX, c_1, hk3, hn3, hm3, c_4, hk6, hn6, hm6, c_7, c_51, hk53, hn53, hm53, hk55, c_72]) _ _ hW hS ls (lv_sub hl [0, 1, 2, 3, 4, 5] rfl)
            · skip
              refine lv_aload_n hx hb dX5_join_56 rfl (lv_at hl 0 rfl) ?_
              refine lv_iload_n hx hb dX5_join_57 rfl (lv_at hl 2 rfl) ?_
              refine w_cV1 X hS (m_X5_isPlain l G ad nA nK mA mK E I J i6 hs (by first | assumption | omega)) rfl rfl g619 g4 g616 g618 p31 hd_X5_isPlain ⟨Nat.le_of_ble_eq_true rfl, Nat.le_of_ble_eq_true rfl⟩ (k_rec X hW 13 0 Nat.zero_lt_one rfl rfl) hW hl.1 rfl (Nat.le_of_ble_eq_true rfl) dX5_join_58 (Nat.zero_le _) (Nat.zero_le _) (fun H locs hW hS => ?_)
              refine lb_if_eq (tgt := 94) hx hb dX5_join_61 (by decide) (fun c_73 => ?_) (fun c_73 => ?_)
              · skip
                refine lv_iconst (v := 0) hx hb dX5_join_94 (by decide) ?_
                refine lv_istore (lv' := [(5, .int 0), (0, .ref (ad 13 0)), (1, .int (nI i3)), (2, .int (nI i6)), (3, .int (nI i53)), (4, .int ((-1)))]) hx hb dX5_join_95 hl (by decide) rfl (fun ls hl => ?_)
                exact join97 false (by simp [mPlX, c_1, hk3, hn3, hm3, c_4, hk6, hn6, hm6, c_7, c_51, hk53, hn53, hm53, hk55, c_72, c_73]) _ _ hW hS ls (lv_sub hl [0, 1, 2, 3, 4, 5] rfl)
              · skip
                refine lv_iload_n hx hb dX5_join_64 rfl (lv_at hl 3 rfl) ?_
                refine lv_if_lt (tgt := 76) hx hb dX5_join_65 (by decide) (fun c_74 => absurd c_74 (nI_pos (by omega))) (fun _ => ?_)
                refine lv_aload_n hx hb dX5_join_68 rfl (lv_at hl 0 rfl) ?_
                refine lv_iload_n hx hb dX5_join_69 rfl (lv_at hl 3 rfl) ?_
                refine w_cV1 X hS (m_X5_isPlain l G ad nA nK mA mK E I J i53 hs (by first | assumption | omega)) rfl rfl g619 g4 g616 g618 p31 hd_X5_isPlain ⟨Nat.le_of_ble_eq_true rfl, Nat.le_of_ble_eq_true rfl⟩ (k_rec X hW 13 0 Nat.zero_lt_one rfl rfl) hW hl.1 rfl (Nat.le_of_ble_eq_true rfl) dX5_join_70 (Nat.zero_le _) (Nat.zero_le _) (fun H locs hW hS => ?_)
                refine lb_if_eq (tgt := 94) hx hb dX5_join_73 (by decide) (fun c_75 => ?_) (fun c_75 => ?_)
                · skip
                  refine lv_iconst (v := 0) hx hb dX5_join_94 (by decide) ?_
                  refine lv_istore (lv' := [(5, .int 0), (0, .ref (ad 13 0)), (1, .int (nI i3)), (2, .int (nI i6)), (3, .int (nI i53)), (4, .int ((-1)))]) hx hb dX5_join_95 hl (by decide) rfl (fun ls hl => ?_)
                  exact join97 false (by simp [mPlX, c_1, hk3, hn3, hm3, c_4, hk6, hn6, hm6, c_7, c_51, hk53, hn53, hm53, hk55, c_72, c_73, c_75]) _ _ hW hS ls (lv_sub hl [0, 1, 2, 3, 4, 5] rfl)
                · skip
                  refine lv_iload hx hb dX5_join_76 (lv_at hl 4 rfl) ?_
                  refine lv_if_lt (tgt := 90) hx hb dX5_join_78 (by decide) (fun _ => ?_) (fun c_76 => absurd (by decide) c_76)
                  refine lv_iconst (v := 1) hx hb dX5_join_90 (by decide) ?_
                  refine lv_goto (tgt := 95) hx hb dX5_join_91 (by decide) ?_
                  refine lv_istore (lv' := [(5, .int 1), (0, .ref (ad 13 0)), (1, .int (nI i3)), (2, .int (nI i6)), (3, .int (nI i53)), (4, .int ((-1)))]) hx hb dX5_join_95 hl (by decide) rfl (fun ls hl => ?_)
                  exact join97 true (by simp [mPlX, c_1, hk3, hn3, hm3, c_4, hk6, hn6, hm6, c_7, c_51, hk53, hn53, hm53, hk55, c_72, c_73, c_75]) _ _ hW hS ls (lv_sub hl [0, 1, 2, 3, 4, 5] rfl)
          · skip
            refine lv_aload_n hx hb dX5_join_35 rfl (lv_at hl 0 rfl) ?_
            refine lv_iload hx hb dX5_join_36 (lv_at hl 4 rfl) ?_
            refine w_cV1 X hS (m_X5_is l G ad nA nK mA mK E I J d9 hs) rfl rfl g615 g4 g612 g614 p30 hd_X5_is ⟨Nat.le_of_ble_eq_true rfl, Nat.le_of_ble_eq_true rfl⟩ (k_rec X hW 13 0 Nat.zero_lt_one rfl rfl) hW hl.1 rfl (Nat.le_of_ble_eq_true rfl) dX5_join_38 (Nat.zero_le _) (Nat.zero_le _) (fun H locs hW hS => ?_)
            refine lb_if_ne (tgt := 48) hx hb dX5_join_41 (by decide) (fun c_77 => ?_) (fun c_77 => ?_)
            · skip
              obtain ⟨i78, hi78, rfl⟩ := mIs_nat (by omega) c_77
              have hk78 : kAns mA (nI i78) = some i78 := kAns_lt hi78 (by omega)
              have hn78 : ¬ nI i78 < 0 := nI_pos (by omega)
              have hm78 : (0 : Int32) ≤ nI i78 := Int32.not_lt.mp hn78
              have hl : lv_has ls 8 [(0, .ref (ad 13 0)), (1, .int (nI i3)), (2, .int (nI i6)), (3, .int (nI i53)), (4, .int (nI i78))] := hl
              have join97 : ∀ (pl : Bool), (pl = (mPlX mA I (nI i3) && (mPlX mA I (nI i6) && (mPlX mA I (nI i53) && mPlX mA I (nI i78))))) → ∀ (H : Heap) (locs : List Loc), Wd G ad nA nK I J H → va_S (k_A G) s.heap H locs → ∀ ls : Array Slot, lv_has ls 8 [(5, .int (k_b pl)), (0, .ref (ad 13 0)), (1, .int (nI i3)), (2, .int (nI i6)), (3, .int (nI i53)), (4, .int (nI i78))] → W p l e { frames := 2, cells := 0, slots := 0, locals := 46 } s m ([.ref (ad 13 0), .int (nI i3), .int (nI i6), .int (nI i53), .int (nI i78)] : List Value).toArray below meth c H locs 0 0 (MQ below (k_Q G (some (.int ((mcJoin mA (nI i3) (nI i6) (nI i53) (nI i78) (I, J)).1))) (Wd G ad nA nK ((mcJoin mA (nI i3) (nI i6) (nI i53) (nI i78) (I, J)).2.1) ((mcJoin mA (nI i3) (nI i6) (nI i53) (nI i78) (I, J)).2.2))) ([.ref (ad 13 0), .int (nI i3), .int (nI i6), .int (nI i53), .int (nI i78)] : List Value).toArray s 0 0 (k_A G)) (F0 m 97 ls []) := by
                intro pl hpl H locs hW hS ls hl
                have join141 : ∀ (un : Bool), (un = mUnl (nI i3) (nI i6) (nI i53) (nI i78)) → ∀ (H : Heap) (locs : List Loc), Wd G ad nA nK I J H → va_S (k_A G) s.heap H locs → ∀ ls : Array Slot, lv_has ls 8 [(6, .int (k_b un)), (5, .int (k_b pl)), (0, .ref (ad 13 0)), (1, .int (nI i3)), (2, .int (nI i6)), (3, .int (nI i53)), (4, .int (nI i78))] → W p l e { frames := 2, cells := 0, slots := 0, locals := 46 } s m ([.ref (ad 13 0), .int (nI i3), .int (nI i6), .int (nI i53), .int (nI i78)] : List Value).toArray below meth c H locs 0 0 (MQ below (k_Q G (some (.int ((mcJoin mA (nI i3) (nI i6) (nI i53) (nI i78) (I, J)).1))) (Wd G ad nA nK ((mcJoin mA (nI i3) (nI i6) (nI i53) (nI i78) (I, J)).2.1) ((mcJoin mA (nI i3) (nI i6) (nI i53) (nI i78) (I, J)).2.2))) ([.ref (ad 13 0), .int (nI i3), .int (nI i6), .int (nI i53), .int (nI i78)] : List Value).toArray s 0 0 (k_A G)) (F0 m 141 ls []) := by
                  intro un hun H locs hW hS ls hl
                  refine lv_iload hx hb dX5_join_141 (lv_at hl 1 rfl) ?_
                  refine lb_if_eq (tgt := 160) hx hb dX5_join_143 (by decide) (fun c_79 => ?_) (fun c_79 => ?_)
                  · skip
                    refine lv_sipush (v := (-1003)) hx hb dX5_join_160 (by decide) ?_
                    exact w_iret X hr hlk hS (by simp only [mcJoin]; rw [← hpl, ← hun]; simp [c_1, hk3, hn3, hm3, c_4, hk6, hn6, hm6, c_7, c_51, hk53, hn53, hm53, c_54, c_77, hk78, hn78, hm78, c_79]) (hW.to (by simp only [mcJoin]; rw [← hpl, ← hun]; simp [c_1, hk3, hn3, hm3, c_4, hk6, hn6, hm6, c_7, c_51, hk53, hn53, hm53, c_54, c_77, hk78, hn78, hm78, c_79]) (by simp only [mcJoin]; rw [← hpl, ← hun]; simp [c_1, hk3, hn3, hm3, c_4, hk6, hn6, hm6, c_7, c_51, hk53, hn53, hm53, c_54, c_77, hk78, hn78, hm78, c_79])) dX5_join_163
                  · skip
                    refine lv_iload hx hb dX5_join_146 (lv_at hl 0 rfl) ?_
                    refine lb_if_eq (tgt := 160) hx hb dX5_join_148 (by decide) (fun c_80 => ?_) (fun c_80 => ?_)
                    · skip
                      refine lv_sipush (v := (-1003)) hx hb dX5_join_160 (by decide) ?_
                      exact w_iret X hr hlk hS (by simp only [mcJoin]; rw [← hpl, ← hun]; simp [c_1, hk3, hn3, hm3, c_4, hk6, hn6, hm6, c_7, c_51, hk53, hn53, hm53, c_54, c_77, hk78, hn78, hm78, c_79, c_80]) (hW.to (by simp only [mcJoin]; rw [← hpl, ← hun]; simp [c_1, hk3, hn3, hm3, c_4, hk6, hn6, hm6, c_7, c_51, hk53, hn53, hm53, c_54, c_77, hk78, hn78, hm78, c_79, c_80]) (by simp only [mcJoin]; rw [← hpl, ← hun]; simp [c_1, hk3, hn3, hm3, c_4, hk6, hn6, hm6, c_7, c_51, hk53, hn53, hm53, c_54, c_77, hk78, hn78, hm78, c_79, c_80])) dX5_join_163
                    · skip
                      refine lv_iload_n hx hb dX5_join_151 rfl (lv_at hl 5 rfl) ?_
                      refine lv_if_ge (tgt := 164) hx hb dX5_join_152 (by decide) (fun _ => ?_) (fun c_81 => absurd (nI_pos' (by omega)) c_81)
                      refine lv_aload_n hx hb dX5_join_164 rfl (lv_at hl 2 rfl) ?_
                      refine w_get (v := .int (nI mA)) X hW 13 0 Nat.zero_lt_one rfl rfl inG5 6 (by decide) g504 (congrArg (fun z => some (Value.int z)) hs.1) dX5_join_165 ?_
                      refine lv_bipush (v := 24) hx hb dX5_join_168 (by decide) ?_
                      refine lv_icmp_ne (tgt := 177) hx hb dX5_join_170 (by decide) (fun c_82 => ?_) (fun c_82 => ?_)
                      · skip
                        have h24 : mA < 24 := nI_full (N := 24) (by omega) (by decide) rfl c_82
                        refine lv_aload_n hx hb dX5_join_177 rfl (lv_at hl 2 rfl) ?_
                        refine lv_iconst (v := 1) hx hb dX5_join_178 (by decide) ?_
                        refine w_cV1 X hS (m_X5_fresh l G ad nA nK mA mK E I J 1 hs (by first | assumption | omega)) rfl rfl g607 g4 g604 g606 p29 hd_X5_fresh ⟨Nat.le_of_ble_eq_true rfl, Nat.le_of_ble_eq_true rfl⟩ (k_rec X hW 13 0 Nat.zero_lt_one rfl rfl) hW hl.1 rfl (Nat.le_of_ble_eq_true rfl) dX5_join_179 (Nat.zero_le _) (Nat.zero_le _) (fun H locs hW hS => ?_)
                        obtain ⟨I83, eI83⟩ : ∃ z, z = mFr mA 1 I := ⟨_, rfl⟩
                        rw [← eI83] at hW
                        obtain ⟨J83, eJ83⟩ : ∃ z, z = mFrJ mA J := ⟨_, rfl⟩
                        rw [← eJ83] at hW
                        refine lv_istore (lv' := [(7, .int (nI mA)), (6, .int (k_b un)), (5, .int (k_b pl)), (0, .ref (ad 13 0)), (1, .int (nI i3)), (2, .int (nI i6)), (3, .int (nI i53)), (4, .int (nI i78))]) hx hb dX5_join_182 hl (by decide) rfl (fun ls hl => ?_)
                        refine lv_aload_n hx hb dX5_join_184 rfl (lv_at hl 3 rfl) ?_
                        refine w_get X hW 13 0 Nat.zero_lt_one rfl rfl inG5 15 (by decide) g513 rfl dX5_join_185 ?_
                        refine lv_iconst (v := 4) hx hb dX5_join_188 (by decide) ?_
                        refine lv_iload hx hb dX5_join_189 (lv_at hl 0 rfl) ?_
                        refine lw_imulN (a := 4) (b := mA) hx hb dX5_join_191 ?_
                        refine lv_iload_n hx hb dX5_join_192 rfl (lv_at hl 4 rfl) ?_
                        refine w_iastN (i := 4 * mA) X hW hS 35 0 Nat.zero_lt_one rfl (by omega) rfl dX5_join_193 (fun H locs hW hS => ?_)
                        obtain ⟨I84, eI84⟩ : ∃ z, z = k_up I83 35 0 (upd (I83 35 0) (4 * mA) (nI i3)) := ⟨_, rfl⟩
                        rw [← eI84] at hW
                        refine lv_aload_n hx hb dX5_join_194 rfl (lv_at hl 3 rfl) ?_
                        refine w_get X hW 13 0 Nat.zero_lt_one rfl rfl inG5 15 (by decide) g513 rfl dX5_join_195 ?_
                        refine lv_iconst (v := 4) hx hb dX5_join_198 (by decide) ?_
                        refine lv_iload hx hb dX5_join_199 (lv_at hl 0 rfl) ?_
                        refine lw_imulN (a := 4) (b := mA) hx hb dX5_join_201 ?_
                        refine lv_iconst (v := 1) hx hb dX5_join_202 (by decide) ?_
                        refine lw_iaddN (a := 4 * mA) (b := 1) hx hb dX5_join_203 ?_
                        refine lv_iload_n hx hb dX5_join_204 rfl (lv_at hl 5 rfl) ?_
                        refine w_iastN (i := 4 * mA + 1) X hW hS 35 0 Nat.zero_lt_one rfl (by omega) rfl dX5_join_205 (fun H locs hW hS => ?_)
                        obtain ⟨I85, eI85⟩ : ∃ z, z = k_up I84 35 0 (upd (I84 35 0) (4 * mA + 1) (nI i6)) := ⟨_, rfl⟩
                        rw [← eI85] at hW
                        refine lv_aload_n hx hb dX5_join_206 rfl (lv_at hl 3 rfl) ?_
                        refine w_get X hW 13 0 Nat.zero_lt_one rfl rfl inG5 15 (by decide) g513 rfl dX5_join_207 ?_
                        refine lv_iconst (v := 4) hx hb dX5_join_210 (by decide) ?_
                        refine lv_iload hx hb dX5_join_211 (lv_at hl 0 rfl) ?_
                        refine lw_imulN (a := 4) (b := mA) hx hb dX5_join_213 ?_
                        refine lv_iconst (v := 2) hx hb dX5_join_214 (by decide) ?_
                        refine lw_iaddN (a := 4 * mA) (b := 2) hx hb dX5_join_215 ?_
                        refine lv_iload_n hx hb dX5_join_216 rfl (lv_at hl 6 rfl) ?_
                        refine w_iastN (i := 4 * mA + 2) X hW hS 35 0 Nat.zero_lt_one rfl (by omega) rfl dX5_join_217 (fun H locs hW hS => ?_)
                        obtain ⟨I86, eI86⟩ : ∃ z, z = k_up I85 35 0 (upd (I85 35 0) (4 * mA + 2) (nI i53)) := ⟨_, rfl⟩
                        rw [← eI86] at hW
                        refine lv_aload_n hx hb dX5_join_218 rfl (lv_at hl 3 rfl) ?_
                        refine w_get X hW 13 0 Nat.zero_lt_one rfl rfl inG5 15 (by decide) g513 rfl dX5_join_219 ?_
                        refine lv_iconst (v := 4) hx hb dX5_join_222 (by decide) ?_
                        refine lv_iload hx hb dX5_join_223 (lv_at hl 0 rfl) ?_
                        refine lw_imulN (a := 4) (b := mA) hx hb dX5_join_225 ?_
                        refine lv_iconst (v := 3) hx hb dX5_join_226 (by decide) ?_
                        refine lw_iaddN (a := 4 * mA) (b := 3) hx hb dX5_join_227 ?_
                        refine lv_iload hx hb dX5_join_228 (lv_at hl 7 rfl) ?_
                        refine w_iastN (i := 4 * mA + 3) X hW hS 35 0 Nat.zero_lt_one rfl (by omega) rfl dX5_join_230 (fun H locs hW hS => ?_)
                        obtain ⟨I87, eI87⟩ : ∃ z, z = k_up I86 35 0 (upd (I86 35 0) (4 * mA + 3) (nI i78)) := ⟨_, rfl⟩
                        rw [← eI87] at hW
                        refine lv_iload hx hb dX5_join_231 (lv_at hl 0 rfl) ?_
                        exact w_iret X hr hlk hS (by simp only [mcJoin]; rw [← hpl, ← hun]; simp [c_1, hk3, hn3, hm3, c_4, hk6, hn6, hm6, c_7, c_51, hk53, hn53, hm53, c_54, c_77, hk78, hn78, hm78, c_79, c_80, c_82]) (hW.to (by subst eI87 eI86 eI85 eI84 eI83; simp only [mcJoin]; rw [← hpl, ← hun]; simp [c_1, hk3, hn3, hm3, c_4, hk6, hn6, hm6, c_7, c_51, hk53, hn53, hm53, c_54, c_77, hk78, hn78, hm78, c_79, c_80, c_82, mJoI, mw]) (by subst eJ83; simp only [mcJoin]; rw [← hpl, ← hun]; simp [c_1, hk3, hn3, hm3, c_4, hk6, hn6, hm6, c_7, c_51, hk53, hn53, hm53, c_54, c_77, hk78, hn78, hm78, c_79, c_80, c_82, mJoI, mw])) dX5_join_233
                      · skip
                        refine lv_sipush (v := (-1004)) hx hb dX5_join_173 (by decide) ?_
                        exact w_iret X hr hlk hS (by simp only [mcJoin]; rw [← hpl, ← hun]; simp [c_1, hk3, hn3, hm3, c_4, hk6, hn6, hm6, c_7, c_51, hk53, hn53, hm53, c_54, c_77, hk78, hn78, hm78, c_79, c_80, c_82]) (hW.to (by simp only [mcJoin]; rw [← hpl, ← hun]; simp [c_1, hk3, hn3, hm3, c_4, hk6, hn6, hm6, c_7, c_51, hk53, hn53, hm53, c_54, c_77, hk78, hn78, hm78, c_79, c_80, c_82]) (by simp only [mcJoin]; rw [← hpl, ← hun]; simp [c_1, hk3, hn3, hm3, c_4, hk6, hn6, hm6, c_7, c_51, hk53, hn53, hm53, c_54, c_77, hk78, hn78, hm78, c_79, c_80, c_82])) dX5_join_176
                refine lv_iload_n hx hb dX5_join_97 rfl (lv_at hl 2 rfl) ?_
                refine lv_iload_n hx hb dX5_join_98 rfl (lv_at hl 3 rfl) ?_
                refine lv_icmp_eq (tgt := 138) hx hb dX5_join_99 (by decide) (fun c_88 => ?_) (fun c_88 => ?_)
                · skip
                  refine lv_iconst (v := 0) hx hb dX5_join_138 (by decide) ?_
                  refine lv_istore (lv' := [(6, .int 0), (5, .int (k_b pl)), (0, .ref (ad 13 0)), (1, .int (nI i3)), (2, .int (nI i6)), (3, .int (nI i53)), (4, .int (nI i78))]) hx hb dX5_join_139 hl (by decide) rfl (fun ls hl => ?_)
                  exact join141 false (by simp [mUnl, c_1, hk3, hn3, hm3, c_4, hk6, hn6, hm6, c_7, c_51, hk53, hn53, hm53, c_54, c_77, hk78, hn78, hm78, hpl, c_88]) _ _ hW hS ls (lv_sub hl [0, 1, 2, 3, 4, 5, 6] rfl)
                · skip
                  refine lv_iload_n hx hb dX5_join_102 rfl (lv_at hl 2 rfl) ?_
                  refine lv_iload_n hx hb dX5_join_103 rfl (lv_at hl 4 rfl) ?_
                  refine lv_icmp_eq (tgt := 138) hx hb dX5_join_104 (by decide) (fun c_89 => ?_) (fun c_89 => ?_)
                  · skip
                    refine lv_iconst (v := 0) hx hb dX5_join_138 (by decide) ?_
                    refine lv_istore (lv' := [(6, .int 0), (5, .int (k_b pl)), (0, .ref (ad 13 0)), (1, .int (nI i3)), (2, .int (nI i6)), (3, .int (nI i53)), (4, .int (nI i78))]) hx hb dX5_join_139 hl (by decide) rfl (fun ls hl => ?_)
                    exact join141 false (by simp [mUnl, c_1, hk3, hn3, hm3, c_4, hk6, hn6, hm6, c_7, c_51, hk53, hn53, hm53, c_54, c_77, hk78, hn78, hm78, hpl, c_88, c_89]) _ _ hW hS ls (lv_sub hl [0, 1, 2, 3, 4, 5, 6] rfl)
                  · skip
                    refine lv_iload_n hx hb dX5_join_107 rfl (lv_at hl 3 rfl) ?_
                    refine lv_iload_n hx hb dX5_join_108 rfl (lv_at hl 4 rfl) ?_
                    refine lv_icmp_eq (tgt := 138) hx hb dX5_join_109 (by decide) (fun c_90 => ?_) (fun c_90 => ?_)
                    · skip
                      refine lv_iconst (v := 0) hx hb dX5_join_138 (by decide) ?_
                      refine lv_istore (lv' := [(6, .int 0), (5, .int (k_b pl)), (0, .ref (ad 13 0)), (1, .int (nI i3)), (2, .int (nI i6)), (3, .int (nI i53)), (4, .int (nI i78))]) hx hb dX5_join_139 hl (by decide) rfl (fun ls hl => ?_)
                      exact join141 false (by simp [mUnl, c_1, hk3, hn3, hm3, c_4, hk6, hn6, hm6, c_7, c_51, hk53, hn53, hm53, c_54, c_77, hk78, hn78, hm78, hpl, c_88, c_89, c_90]) _ _ hW hS ls (lv_sub hl [0, 1, 2, 3, 4, 5, 6] rfl)
                    · skip
                      refine lv_iload_n hx hb dX5_join_112 rfl (lv_at hl 2 rfl) ?_
                      refine lv_iload hx hb dX5_join_113 (lv_at hl 5 rfl) ?_
                      refine lv_icmp_eq (tgt := 138) hx hb dX5_join_115 (by decide) (fun c_91 => ?_) (fun c_91 => ?_)
                      · skip
                        refine lv_iconst (v := 0) hx hb dX5_join_138 (by decide) ?_
                        refine lv_istore (lv' := [(6, .int 0), (5, .int (k_b pl)), (0, .ref (ad 13 0)), (1, .int (nI i3)), (2, .int (nI i6)), (3, .int (nI i53)), (4, .int (nI i78))]) hx hb dX5_join_139 hl (by decide) rfl (fun ls hl => ?_)
                        exact join141 false (by simp [mUnl, c_1, hk3, hn3, hm3, c_4, hk6, hn6, hm6, c_7, c_51, hk53, hn53, hm53, c_54, c_77, hk78, hn78, hm78, hpl, c_88, c_89, c_90, c_91]) _ _ hW hS ls (lv_sub hl [0, 1, 2, 3, 4, 5, 6] rfl)
                      · skip
                        refine lv_iload_n hx hb dX5_join_118 rfl (lv_at hl 3 rfl) ?_
                        refine lv_iload hx hb dX5_join_119 (lv_at hl 5 rfl) ?_
                        refine lv_icmp_eq (tgt := 138) hx hb dX5_join_121 (by decide) (fun c_92 => ?_) (fun c_92 => ?_)
                        · skip
                          refine lv_iconst (v := 0) hx hb dX5_join_138 (by decide) ?_
                          refine lv_istore (lv' := [(6, .int 0), (5, .int (k_b pl)), (0, .ref (ad 13 0)), (1, .int (nI i3)), (2, .int (nI i6)), (3, .int (nI i53)), (4, .int (nI i78))]) hx hb dX5_join_139 hl (by decide) rfl (fun ls hl => ?_)
                          exact join141 false (by simp [mUnl, c_1, hk3, hn3, hm3, c_4, hk6, hn6, hm6, c_7, c_51, hk53, hn53, hm53, c_54, c_77, hk78, hn78, hm78, hpl, c_88, c_89, c_90, c_91, c_92]) _ _ hW hS ls (lv_sub hl [0, 1, 2, 3, 4, 5, 6] rfl)
                        · skip
                          refine lv_iload_n hx hb dX5_join_124 rfl (lv_at hl 4 rfl) ?_
                          refine lv_iload hx hb dX5_join_125 (lv_at hl 5 rfl) ?_
                          refine lv_icmp_ne (tgt := 134) hx hb dX5_join_127 (by decide) (fun c_93 => ?_) (fun c_93 => ?_)
                          · skip
                            refine lv_iconst (v := 1) hx hb dX5_join_134 (by decide) ?_
                            refine lv_goto (tgt := 139) hx hb dX5_join_135 (by decide) ?_
                            refine lv_istore (lv' := [(6, .int 1), (5, .int (k_b pl)), (0, .ref (ad 13 0)), (1, .int (nI i3)), (2, .int (nI i6)), (3, .int (nI i53)), (4, .int (nI i78))]) hx hb dX5_join_139 hl (by decide) rfl (fun ls hl => ?_)
                            exact join141 true (by simp [mUnl, c_1, hk3, hn3, hm3, c_4, hk6, hn6, hm6, c_7, c_51, hk53, hn53, hm53, c_54, c_77, hk78, hn78, hm78, hpl, c_88, c_89, c_90, c_91, c_92, c_93]) _ _ hW hS ls (lv_sub hl [0, 1, 2, 3, 4, 5, 6] rfl)
                          · skip
                            refine lv_iload_n hx hb dX5_join_130 rfl (lv_at hl 4 rfl) ?_
                            refine lv_if_ge (tgt := 138) hx hb dX5_join_131 (by decide) (fun _ => ?_) (fun c_94 => absurd (nI_pos' (by omega)) c_94)
                            refine lv_iconst (v := 0) hx hb dX5_join_138 (by decide) ?_
                            refine lv_istore (lv' := [(6, .int 0), (5, .int (k_b pl)), (0, .ref (ad 13 0)), (1, .int (nI i3)), (2, .int (nI i6)), (3, .int (nI i53)), (4, .int (nI i78))]) hx hb dX5_join_139 hl (by decide) rfl (fun ls hl => ?_)
                            exact join141 false (by simp [mUnl, c_1, hk3, hn3, hm3, c_4, hk6, hn6, hm6, c_7, c_51, hk53, hn53, hm53, c_54, c_77, hk78, hn78, hm78, hpl, c_88, c_89, c_90, c_91, c_92, c_93]) _ _ hW hS ls (lv_sub hl [0, 1, 2, 3, 4, 5, 6] rfl)
              refine lv_aload_n hx hb dX5_join_48 rfl (lv_at hl 0 rfl) ?_
              refine lv_iload_n hx hb dX5_join_49 rfl (lv_at hl 1 rfl) ?_
              refine w_cV1 X hS (m_X5_isPlain l G ad nA nK mA mK E I J i3 hs (by first | assumption | omega)) rfl rfl g619 g4 g616 g618 p31 hd_X5_isPlain ⟨Nat.le_of_ble_eq_true rfl, Nat.le_of_ble_eq_true rfl⟩ (k_rec X hW 13 0 Nat.zero_lt_one rfl rfl) hW hl.1 rfl (Nat.le_of_ble_eq_true rfl) dX5_join_50 (Nat.zero_le _) (Nat.zero_le _) (fun H locs hW hS => ?_)
              refine lb_if_eq (tgt := 94) hx hb dX5_join_53 (by decide) (fun c_95 => ?_) (fun c_95 => ?_)
              · skip
                refine lv_iconst (v := 0) hx hb dX5_join_94 (by decide) ?_
                refine lv_istore (lv' := [(5, .int 0), (0, .ref (ad 13 0)), (1, .int (nI i3)), (2, .int (nI i6)), (3, .int (nI i53)), (4, .int (nI i78))]) hx hb dX5_join_95 hl (by decide) rfl (fun ls hl => ?_)
                exact join97 false (by simp [mPlX, c_1, hk3, hn3, hm3, c_4, hk6, hn6, hm6, c_7, c_51, hk53, hn53, hm53, c_54, c_77, hk78, hn78, hm78, c_95]) _ _ hW hS ls (lv_sub hl [0, 1, 2, 3, 4, 5] rfl)
              · skip
                refine lv_aload_n hx hb dX5_join_56 rfl (lv_at hl 0 rfl) ?_
                refine lv_iload_n hx hb dX5_join_57 rfl (lv_at hl 2 rfl) ?_
                refine w_cV1 X hS (m_X5_isPlain l G ad nA nK mA mK E I J i6 hs (by first | assumption | omega)) rfl rfl g619 g4 g616 g618 p31 hd_X5_isPlain ⟨Nat.le_of_ble_eq_true rfl, Nat.le_of_ble_eq_true rfl⟩ (k_rec X hW 13 0 Nat.zero_lt_one rfl rfl) hW hl.1 rfl (Nat.le_of_ble_eq_true rfl) dX5_join_58 (Nat.zero_le _) (Nat.zero_le _) (fun H locs hW hS => ?_)
                refine lb_if_eq (tgt := 94) hx hb dX5_join_61 (by decide) (fun c_96 => ?_) (fun c_96 => ?_)
                · skip
                  refine lv_iconst (v := 0) hx hb dX5_join_94 (by decide) ?_
                  refine lv_istore (lv' := [(5, .int 0), (0, .ref (ad 13 0)), (1, .int (nI i3)), (2, .int (nI i6)), (3, .int (nI i53)), (4, .int (nI i78))]) hx hb dX5_join_95 hl (by decide) rfl (fun ls hl => ?_)
                  exact join97 false (by simp [mPlX, c_1, hk3, hn3, hm3, c_4, hk6, hn6, hm6, c_7, c_51, hk53, hn53, hm53, c_54, c_77, hk78, hn78, hm78, c_95, c_96]) _ _ hW hS ls (lv_sub hl [0, 1, 2, 3, 4, 5] rfl)
                · skip
                  refine lv_iload_n hx hb dX5_join_64 rfl (lv_at hl 3 rfl) ?_
                  refine lv_if_lt (tgt := 76) hx hb dX5_join_65 (by decide) (fun c_97 => absurd c_97 (nI_pos (by omega))) (fun _ => ?_)
                  refine lv_aload_n hx hb dX5_join_68 rfl (lv_at hl 0 rfl) ?_
                  refine lv_iload_n hx hb dX5_join_69 rfl (lv_at hl 3 rfl) ?_
                  refine w_cV1 X hS (m_X5_isPlain l G ad nA nK mA mK E I J i53 hs (by first | assumption | omega)) rfl rfl g619 g4 g616 g618 p31 hd_X5_isPlain ⟨Nat.le_of_ble_eq_true rfl, Nat.le_of_ble_eq_true rfl⟩ (k_rec X hW 13 0 Nat.zero_lt_one rfl rfl) hW hl.1 rfl (Nat.le_of_ble_eq_true rfl) dX5_join_70 (Nat.zero_le _) (Nat.zero_le _) (fun H locs hW hS => ?_)
                  refine lb_if_eq (tgt := 94) hx hb dX5_join_73 (by decide) (fun c_98 => ?_) (fun c_98 => ?_)
                  · skip
                    refine lv_iconst (v := 0) hx hb dX5_join_94 (by decide) ?_
                    refine lv_istore (lv' := [(5, .int 0), (0, .ref (ad 13 0)), (1, .int (nI i3)), (2, .int (nI i6)), (3, .int (nI i53)), (4, .int (nI i78))]) hx hb dX5_join_95 hl (by decide) rfl (fun ls hl => ?_)
                    exact join97 false (by simp [mPlX, c_1, hk3, hn3, hm3, c_4, hk6, hn6, hm6, c_7, c_51, hk53, hn53, hm53, c_54, c_77, hk78, hn78, hm78, c_95, c_96, c_98]) _ _ hW hS ls (lv_sub hl [0, 1, 2, 3, 4, 5] rfl)
                  · skip
                    refine lv_iload hx hb dX5_join_76 (lv_at hl 4 rfl) ?_
                    refine lv_if_lt (tgt := 90) hx hb dX5_join_78 (by decide) (fun c_99 => absurd c_99 (nI_pos (by omega))) (fun _ => ?_)
                    refine lv_aload_n hx hb dX5_join_81 rfl (lv_at hl 0 rfl) ?_
                    refine lv_iload hx hb dX5_join_82 (lv_at hl 4 rfl) ?_
                    refine w_cV1 X hS (m_X5_isPlain l G ad nA nK mA mK E I J i78 hs (by first | assumption | omega)) rfl rfl g619 g4 g616 g618 p31 hd_X5_isPlain ⟨Nat.le_of_ble_eq_true rfl, Nat.le_of_ble_eq_true rfl⟩ (k_rec X hW 13 0 Nat.zero_lt_one rfl rfl) hW hl.1 rfl (Nat.le_of_ble_eq_true rfl) dX5_join_84 (Nat.zero_le _) (Nat.zero_le _) (fun H locs hW hS => ?_)
                    refine lb_if_eq (tgt := 94) hx hb dX5_join_87 (by decide) (fun c_100 => ?_) (fun c_100 => ?_)
                    · skip
                      refine lv_iconst (v := 0) hx hb dX5_join_94 (by decide) ?_
                      refine lv_istore (lv' := [(5, .int 0), (0, .ref (ad 13 0)), (1, .int (nI i3)), (2, .int (nI i6)), (3, .int (nI i53)), (4, .int (nI i78))]) hx hb dX5_join_95 hl (by decide) rfl (fun ls hl => ?_)
                      exact join97 false (by simp [mPlX, c_1, hk3, hn3, hm3, c_4, hk6, hn6, hm6, c_7, c_51, hk53, hn53, hm53, c_54, c_77, hk78, hn78, hm78, c_95, c_96, c_98, c_100]) _ _ hW hS ls (lv_sub hl [0, 1, 2, 3, 4, 5] rfl)
                    · skip
                      refine lv_iconst (v := 1) hx hb dX5_join_90 (by decide) ?_
                      refine lv_goto (tgt := 95) hx hb dX5_join_91 (by decide) ?_
                      refine lv_istore (lv' := [(5, .int 1), (0, .ref (ad 13 0)), (1, .int (nI i3)), (2, .int (nI i6)), (3, .int (nI i53)), (4, .int (nI i78))]) hx hb dX5_join_95 hl (by decide) rfl (fun ls hl => ?_)
                      exact join97 true (by simp [mPlX, c_1, hk3, hn3, hm3, c_4, hk6, hn6, hm6, c_7, c_51, hk53, hn53, hm53, c_54, c_77, hk78, hn78, hm78, c_95, c_96, c_98, c_100]) _ _ hW hS ls (lv_sub hl [0, 1, 2, 3, 4, 5] rfl)
            · skip
              have hk101 : kAns mA d9 = none := mIs_none (by omega) c_77
              refine lv_sipush (v := (-1001)) hx hb dX5_join_44 (by decide) ?_
              exact w_iret X hr hlk hS (by first | rfl | (simp [mcJoin, mJoI, mw, c_1, hk3, hn3, hm3, c_4, hk6, hn6, hm6, c_7, c_51, hk53, hn53, hm53, c_54, c_77, hk101]; done) | (simp [mcJoin, mJoI, mw, c_1, hk3, hn3, hm3, c_4, hk6, hn6, hm6, c_7, c_51, hk53, hn53, hm53, c_54, c_77, hk101]; rfl)) (hW.to (by first | rfl | (simp [mcJoin, mJoI, mw, c_1, hk3, hn3, hm3, c_4, hk6, hn6, hm6, c_7, c_51, hk53, hn53, hm53, c_54, c_77, hk101]; done)) (by first | rfl | (simp [mcJoin, mJoI, mw, c_1, hk3, hn3, hm3, c_4, hk6, hn6, hm6, c_7, c_51, hk53, hn53, hm53, c_54, c_77, hk101]; done))) dX5_join_47
