set_option maxHeartbeats 4000000 in
set_option maxRecDepth 100000 in
theorem m_X5_fold (l : Launch) (G : k_G) (ad : Nat → Nat → Nat) (nA nK : Nat) (mA mK : Nat) (E : Nat → Nat) (I : k_I) (J : k_J) (w : Int32) (t : Int32) (hs : m_S mA mK E I) : k_Met l yX5_fold cX5_fold 4 (some FieldType.int) { frames := 1, cells := 0, slots := 0, locals := 25 } G [.ref (ad 13 0), .int w, .int t] (Wd G ad nA nK I J) (some (.int ((mcFold w t (I, J)).1))) (Wd G ad nA nK ((mcFold w t (I, J)).2.1) ((mcFold w t (I, J)).2.2)) 0 0 := by
  refine k_body (by decide) (Nat.le_of_ble_eq_true rfl) ?_
  intro p e s m below meth c ls X hr hlk hnm hW hS hl
  have hx := X.1.1
  have hb := X.1.2.1
  have hG := X.1.2.2.2.2
  have hA24 := hs.2.2.1
  have hK30 := hs.2.2.2.1
  have hl : lv_has ls 4 [(0, .ref (ad 13 0)), (1, .int w), (2, .int t)] := hl
  refine lv_iload_n hx hb dX5_fold_0 rfl (lv_at hl 1 rfl) ?_
  refine lv_i2l (v := Int32.toInt64 w) hx hb dX5_fold_1 rfl ?_
  refine lv_lconst (v := 0) hx hb dX5_fold_2 (by decide) ?_
  refine lv_ldc2 hx hb X.1.2.2.2.1 (hG _ g580) dX5_fold_3 ?_
  refine w_cS1 X hS (m_X5_in l G (Wd G ad nA nK I J) (Int32.toInt64 w) 0 39 ) rfl rfl g583 g4 g581 g582 hd_X5_in ⟨Nat.le_of_ble_eq_true rfl, Nat.le_of_ble_eq_true rfl⟩ hW hl.1 rfl (Nat.le_of_ble_eq_true rfl) dX5_fold_6 (Nat.zero_le _) (Nat.zero_le _) (fun H locs hW hS => ?_)
  refine lb_if_eq (tgt := 24) hx hb dX5_fold_9 (by decide) (fun c_1 => ?_) (fun c_1 => ?_)
  · skip
    refine lv_sipush (v := (-1002)) hx hb dX5_fold_24 (by decide) ?_
    exact w_iret X hr hlk hS (by first | rfl | (simp [mcFold, mw, c_1]; done) | (simp [mcFold, mw, c_1]; rfl)) (hW.to (by first | rfl | (simp [mcFold, mw, c_1]; done)) (by first | rfl | (simp [mcFold, mw, c_1]; done))) dX5_fold_27
  · skip
    refine lv_iload_n hx hb dX5_fold_12 rfl (lv_at hl 2 rfl) ?_
    refine lv_i2l (v := Int32.toInt64 t) hx hb dX5_fold_13 rfl ?_
    refine lv_lconst (v := 0) hx hb dX5_fold_14 (by decide) ?_
    refine lv_ldc2 hx hb X.1.2.2.2.1 (hG _ g580) dX5_fold_15 ?_
    refine w_cS1 X hS (m_X5_in l G (Wd G ad nA nK I J) (Int32.toInt64 t) 0 39 ) rfl rfl g583 g4 g581 g582 hd_X5_in ⟨Nat.le_of_ble_eq_true rfl, Nat.le_of_ble_eq_true rfl⟩ hW hl.1 rfl (Nat.le_of_ble_eq_true rfl) dX5_fold_18 (Nat.zero_le _) (Nat.zero_le _) (fun H locs hW hS => ?_)
    refine lb_if_ne (tgt := 28) hx hb dX5_fold_21 (by decide) (fun c_2 => ?_) (fun c_2 => ?_)
    · skip
      refine lv_aload_n hx hb dX5_fold_28 rfl (lv_at hl 0 rfl) ?_
      refine w_get X hW 13 0 Nat.zero_lt_one rfl rfl inG5 0 (by decide) g498 rfl dX5_fold_29 ?_
      refine lv_iload_n hx hb dX5_fold_32 rfl (lv_at hl 1 rfl) ?_
      refine w_iald X hW 20 0 Nat.zero_lt_one rfl (mIn_vp (b := 39) c_1 rfl rfl) dX5_fold_33 ?_
      refine lv_istore_n (lv' := [(3, .int (I 20 0 (w).toNatClampNeg)), (0, .ref (ad 13 0)), (1, .int w), (2, .int t)]) hx hb dX5_fold_34 rfl hl (by decide) rfl (fun ls hl => ?_)
      refine lv_aload_n hx hb dX5_fold_35 rfl (lv_at hl 1 rfl) ?_
      refine w_get X hW 13 0 Nat.zero_lt_one rfl rfl inG5 0 (by decide) g498 rfl dX5_fold_36 ?_
      refine lv_iload_n hx hb dX5_fold_39 rfl (lv_at hl 2 rfl) ?_
      refine lv_iload_n hx hb dX5_fold_40 rfl (lv_at hl 3 rfl) ?_
      refine w_iast X hW hS 20 0 Nat.zero_lt_one rfl (mIn_vp (b := 39) c_1 rfl rfl) rfl dX5_fold_41 (fun H locs hW hS => ?_)
      obtain ⟨I3, eI3⟩ : ∃ z, z = k_up I 20 0 (upd (I 20 0) ((w).toNatClampNeg) t) := ⟨_, rfl⟩
      rw [← eI3] at hW
      have hs3 : m_S mA mK E I3 := by rw [eI3]; exact hs.up 20 _ _ (by decide)
      refine lv_iload_n hx hb dX5_fold_42 rfl (lv_at hl 0 rfl) ?_
      exact w_iret X hr hlk hS (by first | rfl | (simp [mcFold, mw, c_1, c_2, eI3]; done) | (subst eI3; simp [mcFold, mw, c_1, c_2]; done) | (simp [mcFold, mw, c_1, c_2, eI3]; rfl)) (hW.to (by first | rfl | (subst eI3; simp [mcFold, mw, c_1, c_2]; done) | (subst eI3; rfl) | (subst eI3; simp [mcFold, mw, c_1, c_2]; done) | (subst eI3; simp [mcFold, mw, c_1, c_2]; rfl) | (simp [mcFold, mw, c_1, c_2, eI3]; done)) (by first | rfl | (subst eI3; simp [mcFold, mw, c_1, c_2]; done) | (subst eI3; rfl) | (subst eI3; simp [mcFold, mw, c_1, c_2]; done) | (subst eI3; simp [mcFold, mw, c_1, c_2]; rfl) | (simp [mcFold, mw, c_1, c_2, eI3]; done))) dX5_fold_43
    · skip
      refine lv_sipush (v := (-1002)) hx hb dX5_fold_24 (by decide) ?_
      exact w_iret X hr hlk hS (by first | rfl | (simp [mcFold, mw, c_1, c_2]; done) | (simp [mcFold, mw, c_1, c_2]; rfl)) (hW.to (by first | rfl | (simp [mcFold, mw, c_1, c_2]; done)) (by first | rfl | (simp [mcFold, mw, c_1, c_2]; done))) dX5_fold_27
set_option maxHeartbeats 4000000 in
set_option maxRecDepth 100000 in
theorem m_X5_changed (l : Launch) (G : k_G) (ad : Nat → Nat → Nat) (nA nK : Nat) (mA mK : Nat) (E : Nat → Nat) (I : k_I) (J : k_J) (x : Int32) (hs : m_S mA mK E I) : k_Met l yX5_changed cX5_changed 2 (some FieldType.int) { frames := 1, cells := 0, slots := 0, locals := 25 } G [.ref (ad 13 0), .int x] (Wd G ad nA nK I J) (some (.int ((mcChanged x (I, J)).1))) (Wd G ad nA nK ((mcChanged x (I, J)).2.1) ((mcChanged x (I, J)).2.2)) 0 0 := by
  refine k_body (by decide) (Nat.le_of_ble_eq_true rfl) ?_
  intro p e s m below meth c ls X hr hlk hnm hW hS hl
  have hx := X.1.1
  have hb := X.1.2.1
  have hG := X.1.2.2.2.2
  have hA24 := hs.2.2.1
  have hK30 := hs.2.2.2.1
  have hl : lv_has ls 2 [(0, .ref (ad 13 0)), (1, .int x)] := hl
  refine lv_iload_n hx hb dX5_changed_0 rfl (lv_at hl 1 rfl) ?_
  refine lv_i2l (v := Int32.toInt64 x) hx hb dX5_changed_1 rfl ?_
  refine lv_lconst (v := 0) hx hb dX5_changed_2 (by decide) ?_
  refine lv_ldc2 hx hb X.1.2.2.2.1 (hG _ g588) dX5_changed_3 ?_
  refine w_cS1 X hS (m_X5_in l G (Wd G ad nA nK I J) (Int32.toInt64 x) 0 9 ) rfl rfl g583 g4 g581 g582 hd_X5_in ⟨Nat.le_of_ble_eq_true rfl, Nat.le_of_ble_eq_true rfl⟩ hW hl.1 rfl (Nat.le_of_ble_eq_true rfl) dX5_changed_6 (Nat.zero_le _) (Nat.zero_le _) (fun H locs hW hS => ?_)
  refine lb_if_ne (tgt := 16) hx hb dX5_changed_9 (by decide) (fun c_1 => ?_) (fun c_1 => ?_)
  · skip
    refine lv_aload_n hx hb dX5_changed_16 rfl (lv_at hl 0 rfl) ?_
    refine lv_dup hx hb dX5_changed_17 rfl ?_
    refine w_get X hW 13 0 Nat.zero_lt_one rfl rfl inG5 3 (by decide) g501 rfl dX5_changed_18 ?_
    refine lv_iconst (v := 1) hx hb dX5_changed_21 (by decide) ?_
    refine lv_iadd hx hb dX5_changed_22 ?_
    refine w_puti X hW hS 13 0 Nat.zero_lt_one rfl rfl inG5 tyX5 tyX5_ok nmX5 3 (by decide) g501 rfl rfl rfl (Nat.le_of_ble_eq_true rfl) rfl dX5_changed_23 (fun H locs hW hS => ?_)
    obtain ⟨I2, eI2⟩ : ∃ z, z = k_up I 13 0 (upd (I 13 0) 3 ((I 13 0 3) + 1)) := ⟨_, rfl⟩
    rw [← eI2] at hW
    refine lv_aload_n hx hb dX5_changed_26 rfl (lv_at hl 0 rfl) ?_
    refine w_get X hW 13 0 Nat.zero_lt_one rfl rfl inG5 2 (by decide) g500 rfl dX5_changed_27 ?_
    refine lv_iload_n hx hb dX5_changed_30 rfl (lv_at hl 1 rfl) ?_
    refine lv_aload_n hx hb dX5_changed_31 rfl (lv_at hl 0 rfl) ?_
    refine w_get X hW 13 0 Nat.zero_lt_one rfl rfl inG5 3 (by decide) g501 rfl dX5_changed_32 ?_
    refine w_iast X hW hS 22 0 Nat.zero_lt_one rfl (mIn_vp (b := 9) c_1 rfl rfl) rfl dX5_changed_35 (fun H locs hW hS => ?_)
    obtain ⟨I3, eI3⟩ : ∃ z, z = k_up I2 22 0 (upd (I2 22 0) ((x).toNatClampNeg) (I2 13 0 3)) := ⟨_, rfl⟩
    rw [← eI3] at hW
    refine lv_aload_n hx hb dX5_changed_36 rfl (lv_at hl 0 rfl) ?_
    refine w_get X hW 13 0 Nat.zero_lt_one rfl rfl inG5 1 (by decide) g499 rfl dX5_changed_37 ?_
    refine lv_iload_n hx hb dX5_changed_40 rfl (lv_at hl 1 rfl) ?_
    refine lv_dup2_11 hx hb dX5_changed_41 rfl rfl ?_
    refine w_iald X hW 21 0 Nat.zero_lt_one rfl (mIn_vp (b := 9) c_1 rfl rfl) dX5_changed_42 ?_
    refine lv_iconst (v := 1) hx hb dX5_changed_43 (by decide) ?_
    refine lv_iadd hx hb dX5_changed_44 ?_
    refine w_iast X hW hS 21 0 Nat.zero_lt_one rfl (mIn_vp (b := 9) c_1 rfl rfl) rfl dX5_changed_45 (fun H locs hW hS => ?_)
    obtain ⟨I4, eI4⟩ : ∃ z, z = k_up I3 21 0 (upd (I3 21 0) ((x).toNatClampNeg) ((I3 21 0 (x).toNatClampNeg) + 1)) := ⟨_, rfl⟩
    rw [← eI4] at hW
    refine lv_aload_n hx hb dX5_changed_46 rfl (lv_at hl 0 rfl) ?_
    refine w_get X hW 13 0 Nat.zero_lt_one rfl rfl inG5 1 (by decide) g499 rfl dX5_changed_47 ?_
    refine lv_iload_n hx hb dX5_changed_50 rfl (lv_at hl 1 rfl) ?_
    refine w_iald X hW 21 0 Nat.zero_lt_one rfl (mIn_vp (b := 9) c_1 rfl rfl) dX5_changed_51 ?_
    exact w_iret X hr hlk hS (by first | rfl | (simp [mcChanged, mcCh, mcCh1, mcCh2, mcCh3, mw, c_1, eI2, eI3, eI4]; done) | (subst eI4 eI3 eI2; simp [mcChanged, mcCh, mcCh1, mcCh2, mcCh3, mw, c_1]; done) | (simp [mcChanged, mcCh, mcCh1, mcCh2, mcCh3, mw, c_1, eI2, eI3, eI4]; rfl)) (hW.to (by first | rfl | (subst eI4 eI3 eI2; simp [mcChanged, mcCh, mcCh1, mcCh2, mcCh3, mw, c_1]; done) | (subst eI4 eI3 eI2; rfl) | (subst eI4 eI3 eI2; simp [mcChanged, mcCh, mcCh1, mcCh2, mcCh3, mw, c_1]; done) | (subst eI4 eI3 eI2; simp [mcChanged, mcCh, mcCh1, mcCh2, mcCh3, mw, c_1]; rfl) | (simp [mcChanged, mcCh, mcCh1, mcCh2, mcCh3, mw, c_1, eI2, eI3, eI4]; done)) (by first | rfl | (subst eI4 eI3 eI2; simp [mcChanged, mcCh, mcCh1, mcCh2, mcCh3, mw, c_1]; done) | (subst eI4 eI3 eI2; rfl) | (subst eI4 eI3 eI2; simp [mcChanged, mcCh, mcCh1, mcCh2, mcCh3, mw, c_1]; done) | (subst eI4 eI3 eI2; simp [mcChanged, mcCh, mcCh1, mcCh2, mcCh3, mw, c_1]; rfl) | (simp [mcChanged, mcCh, mcCh1, mcCh2, mcCh3, mw, c_1, eI2, eI3, eI4]; done))) dX5_changed_52
  · skip
    refine lv_sipush (v := (-1001)) hx hb dX5_changed_12 (by decide) ?_
    exact w_iret X hr hlk hS (by first | rfl | (simp [mcChanged, mcCh, mcCh1, mcCh2, mcCh3, mw, c_1]; done) | (simp [mcChanged, mcCh, mcCh1, mcCh2, mcCh3, mw, c_1]; rfl)) (hW.to (by first | rfl | (simp [mcChanged, mcCh, mcCh1, mcCh2, mcCh3, mw, c_1]; done)) (by first | rfl | (simp [mcChanged, mcCh, mcCh1, mcCh2, mcCh3, mw, c_1]; done))) dX5_changed_15
set_option maxHeartbeats 4000000 in
set_option maxRecDepth 100000 in
theorem m_X5_rule (l : Launch) (G : k_G) (ad : Nat → Nat → Nat) (nA nK : Nat) (mA mK : Nat) (E : Nat → Nat) (I : k_I) (J : k_J) (w : Int32) (v : Int32) (hs : m_S mA mK E I) : k_Met l yX5_rule cX5_rule 4 (some FieldType.int) { frames := 1, cells := 0, slots := 0, locals := 25 } G [.ref (ad 13 0), .int w, .int v] (Wd G ad nA nK I J) (some (.int ((mcRule w v (I, J)).1))) (Wd G ad nA nK ((mcRule w v (I, J)).2.1) ((mcRule w v (I, J)).2.2)) 0 0 := by
  refine k_body (by decide) (Nat.le_of_ble_eq_true rfl) ?_
  intro p e s m below meth c ls X hr hlk hnm hW hS hl
  have hx := X.1.1
  have hb := X.1.2.1
  have hG := X.1.2.2.2.2
  have hA24 := hs.2.2.1
  have hK30 := hs.2.2.2.1
  have hl : lv_has ls 4 [(0, .ref (ad 13 0)), (1, .int w), (2, .int v)] := hl
  refine lv_iload_n hx hb dX5_rule_0 rfl (lv_at hl 1 rfl) ?_
  refine lv_i2l (v := Int32.toInt64 w) hx hb dX5_rule_1 rfl ?_
  refine lv_lconst (v := 0) hx hb dX5_rule_2 (by decide) ?_
  refine lv_lconst (v := 1) hx hb dX5_rule_3 (by decide) ?_
  refine w_cS1 X hS (m_X5_in l G (Wd G ad nA nK I J) (Int32.toInt64 w) 0 1 ) rfl rfl g583 g4 g581 g582 hd_X5_in ⟨Nat.le_of_ble_eq_true rfl, Nat.le_of_ble_eq_true rfl⟩ hW hl.1 rfl (Nat.le_of_ble_eq_true rfl) dX5_rule_4 (Nat.zero_le _) (Nat.zero_le _) (fun H locs hW hS => ?_)
  refine lb_if_eq (tgt := 32) hx hb dX5_rule_7 (by decide) (fun c_1 => ?_) (fun c_1 => ?_)
  · skip
    refine lv_sipush (v := (-1002)) hx hb dX5_rule_32 (by decide) ?_
    exact w_iret X hr hlk hS (by first | rfl | (simp [mcRule, mcRu1, mcRu2, c_1]; done) | (simp [mcRule, mcRu1, mcRu2, c_1]; rfl)) (hW.to (by first | rfl | (simp [mcRule, mcRu1, mcRu2, c_1]; done)) (by first | rfl | (simp [mcRule, mcRu1, mcRu2, c_1]; done))) dX5_rule_35
  · skip
    refine lv_iload_n hx hb dX5_rule_10 rfl (lv_at hl 2 rfl) ?_
    refine lv_i2l (v := Int32.toInt64 v) hx hb dX5_rule_11 rfl ?_
    refine lv_lconst (v := 0) hx hb dX5_rule_12 (by decide) ?_
    refine lv_iload_n hx hb dX5_rule_13 rfl (lv_at hl 1 rfl) ?_
    refine lv_if_ne (tgt := 23) hx hb dX5_rule_14 (by decide) (fun c_2 => ?_) (fun c_2 => ?_)
    · skip
      refine lv_ldc2 hx hb X.1.2.2.2.1 (hG _ g594) dX5_rule_23 ?_
      refine w_cS1 X hS (m_X5_in l G (Wd G ad nA nK I J) (Int32.toInt64 v) 0 200 ) rfl rfl g583 g4 g581 g582 hd_X5_in ⟨Nat.le_of_ble_eq_true rfl, Nat.le_of_ble_eq_true rfl⟩ hW hl.1 rfl (Nat.le_of_ble_eq_true rfl) dX5_rule_26 (Nat.zero_le _) (Nat.zero_le _) (fun H locs hW hS => ?_)
      refine lb_if_ne (tgt := 36) hx hb dX5_rule_29 (by decide) (fun c_3 => ?_) (fun c_3 => ?_)
      · skip
        refine lv_iload_n hx hb dX5_rule_36 rfl (lv_at hl 1 rfl) ?_
        refine lv_if_ne (tgt := 47) hx hb dX5_rule_37 (by decide) (fun _ => ?_) (fun c_4 => absurd c_4 c_2)
        refine lv_aload_n hx hb dX5_rule_47 rfl (lv_at hl 0 rfl) ?_
        refine w_get X hW 13 0 Nat.zero_lt_one rfl rfl inG5 5 (by decide) g503 rfl dX5_rule_48 ?_
        refine lv_istore_n (lv' := [(3, .int (I 13 0 5)), (0, .ref (ad 13 0)), (1, .int w), (2, .int v)]) hx hb dX5_rule_51 rfl hl (by decide) rfl (fun ls hl => ?_)
        refine lv_aload_n hx hb dX5_rule_52 rfl (lv_at hl 1 rfl) ?_
        refine lv_iload_n hx hb dX5_rule_53 rfl (lv_at hl 2 rfl) ?_
        refine lv_if_ne (tgt := 61) hx hb dX5_rule_54 (by decide) (fun _ => ?_) (fun c_5 => absurd c_5 c_2)
        refine lv_aload_n hx hb dX5_rule_61 rfl (lv_at hl 1 rfl) ?_
        refine w_get X hW 13 0 Nat.zero_lt_one rfl rfl inG5 4 (by decide) g502 rfl dX5_rule_62 ?_
        refine w_puti X hW hS 13 0 Nat.zero_lt_one rfl rfl inG5 tyX5 tyX5_ok nmX5 4 (by decide) g502 rfl rfl rfl (Nat.le_of_ble_eq_true rfl) rfl dX5_rule_65 (fun H locs hW hS => ?_)
        obtain ⟨I6, eI6⟩ : ∃ z, z = k_up I 13 0 (upd (I 13 0) 4 (I 13 0 4)) := ⟨_, rfl⟩
        rw [← eI6] at hW
        refine lv_aload_n hx hb dX5_rule_68 rfl (lv_at hl 1 rfl) ?_
        refine lv_iload_n hx hb dX5_rule_69 rfl (lv_at hl 2 rfl) ?_
        refine lv_iconst (v := 1) hx hb dX5_rule_70 (by decide) ?_
        refine lv_icmp_ne (tgt := 78) hx hb dX5_rule_71 (by decide) (fun c_7 => ?_) (fun c_7 => ?_)
        · skip
          refine lv_aload_n hx hb dX5_rule_78 rfl (lv_at hl 1 rfl) ?_
          refine w_get X hW 13 0 Nat.zero_lt_one rfl rfl inG5 5 (by decide) g503 rfl dX5_rule_79 ?_
          refine w_puti X hW hS 13 0 Nat.zero_lt_one rfl rfl inG5 tyX5 tyX5_ok nmX5 5 (by decide) g503 rfl rfl rfl (Nat.le_of_ble_eq_true rfl) rfl dX5_rule_82 (fun H locs hW hS => ?_)
          obtain ⟨I8, eI8⟩ : ∃ z, z = k_up I6 13 0 (upd (I6 13 0) 5 (I6 13 0 5)) := ⟨_, rfl⟩
          rw [← eI8] at hW
          refine lv_iload_n hx hb dX5_rule_85 rfl (lv_at hl 0 rfl) ?_
          exact w_iret X hr hlk hS (by first | rfl | (simp [mcRule, mcRu1, mcRu2, c_1, c_2, c_3, c_7, eI6, eI8]; done) | (subst eI8 eI6; simp [mcRule, mcRu1, mcRu2, c_1, c_2, c_3, c_7]; done) | (simp [mcRule, mcRu1, mcRu2, c_1, c_2, c_3, c_7, eI6, eI8]; rfl)) (hW.to (by first | rfl | (subst eI8 eI6; simp [mcRule, mcRu1, mcRu2, c_1, c_2, c_3, c_7]; done) | (subst eI8 eI6; rfl) | (subst eI8 eI6; simp [mcRule, mcRu1, mcRu2, c_1, c_2, c_3, c_7]; done) | (subst eI8 eI6; simp [mcRule, mcRu1, mcRu2, c_1, c_2, c_3, c_7]; rfl) | (simp [mcRule, mcRu1, mcRu2, c_1, c_2, c_3, c_7, eI6, eI8]; done)) (by first | rfl | (subst eI8 eI6; simp [mcRule, mcRu1, mcRu2, c_1, c_2, c_3, c_7]; done) | (subst eI8 eI6; rfl) | (subst eI8 eI6; simp [mcRule, mcRu1, mcRu2, c_1, c_2, c_3, c_7]; done) | (subst eI8 eI6; simp [mcRule, mcRu1, mcRu2, c_1, c_2, c_3, c_7]; rfl) | (simp [mcRule, mcRu1, mcRu2, c_1, c_2, c_3, c_7, eI6, eI8]; done))) dX5_rule_86
        · skip
          refine lv_iload_n hx hb dX5_rule_74 rfl (lv_at hl 3 rfl) ?_
          refine lv_goto (tgt := 82) hx hb dX5_rule_75 (by decide) ?_
          refine w_puti X hW hS 13 0 Nat.zero_lt_one rfl rfl inG5 tyX5 tyX5_ok nmX5 5 (by decide) g503 rfl rfl rfl (Nat.le_of_ble_eq_true rfl) rfl dX5_rule_82 (fun H locs hW hS => ?_)
          obtain ⟨I9, eI9⟩ : ∃ z, z = k_up I6 13 0 (upd (I6 13 0) 5 v) := ⟨_, rfl⟩
          rw [← eI9] at hW
          refine lv_iload_n hx hb dX5_rule_85 rfl (lv_at hl 0 rfl) ?_
          exact w_iret X hr hlk hS (by first | rfl | (simp [mcRule, mcRu1, mcRu2, c_1, c_2, c_3, c_7, eI6, eI9]; done) | (subst c_7; simp [mcRule, mcRu1, mcRu2, c_1, c_2, c_3, eI6, eI9]; done) | (subst eI9 eI6; simp [mcRule, mcRu1, mcRu2, c_1, c_2, c_3, c_7]; done) | (simp [mcRule, mcRu1, mcRu2, c_1, c_2, c_3, c_7, eI6, eI9]; rfl)) (hW.to (by first | rfl | (subst eI9 eI6; simp [mcRule, mcRu1, mcRu2, c_1, c_2, c_3, c_7]; done) | (subst eI9 eI6; rfl) | (subst eI9 eI6; simp [mcRule, mcRu1, mcRu2, c_1, c_2, c_3, c_7]; done) | (subst eI9 eI6; simp [mcRule, mcRu1, mcRu2, c_1, c_2, c_3, c_7]; rfl) | (simp [mcRule, mcRu1, mcRu2, c_1, c_2, c_3, c_7, eI6, eI9]; done)) (by first | rfl | (subst eI9 eI6; simp [mcRule, mcRu1, mcRu2, c_1, c_2, c_3, c_7]; done) | (subst eI9 eI6; rfl) | (subst eI9 eI6; simp [mcRule, mcRu1, mcRu2, c_1, c_2, c_3, c_7]; done) | (subst eI9 eI6; simp [mcRule, mcRu1, mcRu2, c_1, c_2, c_3, c_7]; rfl) | (simp [mcRule, mcRu1, mcRu2, c_1, c_2, c_3, c_7, eI6, eI9]; done))) dX5_rule_86
      · skip
        refine lv_sipush (v := (-1002)) hx hb dX5_rule_32 (by decide) ?_
        exact w_iret X hr hlk hS (by first | rfl | (simp [mcRule, mcRu1, mcRu2, c_1, c_2, c_3]; done) | (simp [mcRule, mcRu1, mcRu2, c_1, c_2, c_3]; rfl)) (hW.to (by first | rfl | (simp [mcRule, mcRu1, mcRu2, c_1, c_2, c_3]; done)) (by first | rfl | (simp [mcRule, mcRu1, mcRu2, c_1, c_2, c_3]; done))) dX5_rule_35
    · skip
      refine lv_ldc2 hx hb X.1.2.2.2.1 (hG _ g593) dX5_rule_17 ?_
      refine lv_goto (tgt := 26) hx hb dX5_rule_20 (by decide) ?_
      refine w_cS1 X hS (m_X5_in l G (Wd G ad nA nK I J) (Int32.toInt64 v) 0 10 ) rfl rfl g583 g4 g581 g582 hd_X5_in ⟨Nat.le_of_ble_eq_true rfl, Nat.le_of_ble_eq_true rfl⟩ hW hl.1 rfl (Nat.le_of_ble_eq_true rfl) dX5_rule_26 (Nat.zero_le _) (Nat.zero_le _) (fun H locs hW hS => ?_)
      refine lb_if_ne (tgt := 36) hx hb dX5_rule_29 (by decide) (fun c_10 => ?_) (fun c_10 => ?_)
      · skip
        refine lv_iload_n hx hb dX5_rule_36 rfl (lv_at hl 1 rfl) ?_
        refine lv_if_ne (tgt := 47) hx hb dX5_rule_37 (by decide) (fun c_11 => absurd c_2 c_11) (fun _ => ?_)
        refine lv_aload_n hx hb dX5_rule_40 rfl (lv_at hl 0 rfl) ?_
        refine w_get X hW 13 0 Nat.zero_lt_one rfl rfl inG5 4 (by decide) g502 rfl dX5_rule_41 ?_
        refine lv_goto (tgt := 51) hx hb dX5_rule_44 (by decide) ?_
        refine lv_istore_n (lv' := [(3, .int (I 13 0 4)), (0, .ref (ad 13 0)), (1, .int w), (2, .int v)]) hx hb dX5_rule_51 rfl hl (by decide) rfl (fun ls hl => ?_)
        refine lv_aload_n hx hb dX5_rule_52 rfl (lv_at hl 1 rfl) ?_
        refine lv_iload_n hx hb dX5_rule_53 rfl (lv_at hl 2 rfl) ?_
        refine lv_if_ne (tgt := 61) hx hb dX5_rule_54 (by decide) (fun c_12 => absurd c_2 c_12) (fun _ => ?_)
        refine lv_iload_n hx hb dX5_rule_57 rfl (lv_at hl 3 rfl) ?_
        refine lv_goto (tgt := 65) hx hb dX5_rule_58 (by decide) ?_
        refine w_puti X hW hS 13 0 Nat.zero_lt_one rfl rfl inG5 tyX5 tyX5_ok nmX5 4 (by decide) g502 rfl rfl rfl (Nat.le_of_ble_eq_true rfl) rfl dX5_rule_65 (fun H locs hW hS => ?_)
        obtain ⟨I13, eI13⟩ : ∃ z, z = k_up I 13 0 (upd (I 13 0) 4 v) := ⟨_, rfl⟩
        rw [← eI13] at hW
        refine lv_aload_n hx hb dX5_rule_68 rfl (lv_at hl 1 rfl) ?_
        refine lv_iload_n hx hb dX5_rule_69 rfl (lv_at hl 2 rfl) ?_
        refine lv_iconst (v := 1) hx hb dX5_rule_70 (by decide) ?_
        refine lv_icmp_ne (tgt := 78) hx hb dX5_rule_71 (by decide) (fun _ => ?_) (fun c_14 => absurd (c_2.symm.trans c_14) (by decide))
        refine lv_aload_n hx hb dX5_rule_78 rfl (lv_at hl 1 rfl) ?_
        refine w_get X hW 13 0 Nat.zero_lt_one rfl rfl inG5 5 (by decide) g503 rfl dX5_rule_79 ?_
        refine w_puti X hW hS 13 0 Nat.zero_lt_one rfl rfl inG5 tyX5 tyX5_ok nmX5 5 (by decide) g503 rfl rfl rfl (Nat.le_of_ble_eq_true rfl) rfl dX5_rule_82 (fun H locs hW hS => ?_)
        obtain ⟨I15, eI15⟩ : ∃ z, z = k_up I13 13 0 (upd (I13 13 0) 5 (I13 13 0 5)) := ⟨_, rfl⟩
        rw [← eI15] at hW
        refine lv_iload_n hx hb dX5_rule_85 rfl (lv_at hl 0 rfl) ?_
        exact w_iret X hr hlk hS (by first | rfl | (simp [mcRule, mcRu1, mcRu2, c_1, c_2, c_10, eI13, eI15]; done) | (subst c_2; simp [mcRule, mcRu1, mcRu2, c_1, c_10, eI13, eI15]; done) | (subst eI15 eI13; simp [mcRule, mcRu1, mcRu2, c_1, c_2, c_10]; done) | (simp [mcRule, mcRu1, mcRu2, c_1, c_2, c_10, eI13, eI15]; rfl)) (hW.to (by first | rfl | (subst eI15 eI13; simp [mcRule, mcRu1, mcRu2, c_1, c_2, c_10]; done) | (subst eI15 eI13; rfl) | (subst eI15 eI13; simp [mcRule, mcRu1, mcRu2, c_1, c_2, c_10]; done) | (subst eI15 eI13; simp [mcRule, mcRu1, mcRu2, c_1, c_2, c_10]; rfl) | (simp [mcRule, mcRu1, mcRu2, c_1, c_2, c_10, eI13, eI15]; done)) (by first | rfl | (subst eI15 eI13; simp [mcRule, mcRu1, mcRu2, c_1, c_2, c_10]; done) | (subst eI15 eI13; rfl) | (subst eI15 eI13; simp [mcRule, mcRu1, mcRu2, c_1, c_2, c_10]; done) | (subst eI15 eI13; simp [mcRule, mcRu1, mcRu2, c_1, c_2, c_10]; rfl) | (simp [mcRule, mcRu1, mcRu2, c_1, c_2, c_10, eI13, eI15]; done))) dX5_rule_86
      · skip
        refine lv_sipush (v := (-1002)) hx hb dX5_rule_32 (by decide) ?_
        exact w_iret X hr hlk hS (by first | rfl | (simp [mcRule, mcRu1, mcRu2, c_1, c_2, c_10]; done) | (subst c_2; simp [mcRule, mcRu1, mcRu2, c_1, c_10]; done) | (simp [mcRule, mcRu1, mcRu2, c_1, c_2, c_10]; rfl)) (hW.to (by first | rfl | (simp [mcRule, mcRu1, mcRu2, c_1, c_2, c_10]; done)) (by first | rfl | (simp [mcRule, mcRu1, mcRu2, c_1, c_2, c_10]; done))) dX5_rule_35
set_option maxHeartbeats 4000000 in
set_option maxRecDepth 100000 in
theorem m_X5_bind (l : Launch) (G : k_G) (ad : Nat → Nat → Nat) (nA nK : Nat) (mA mK : Nat) (E : Nat → Nat) (I : k_I) (J : k_J) (a : Int32) (t : Int32) (hs : m_S mA mK E I) : k_Met l yX5_bind cX5_bind 4 (some FieldType.int) { frames := 2, cells := 0, slots := 0, locals := 46 } G [.ref (ad 13 0), .int a, .int t] (Wd G ad nA nK I J) (some (.int ((mcBind mA a t (I, J)).1))) (Wd G ad nA nK ((mcBind mA a t (I, J)).2.1) ((mcBind mA a t (I, J)).2.2)) 0 0 := by
  refine k_body (by decide) (Nat.le_of_ble_eq_true rfl) ?_
  intro p e s m below meth c ls X hr hlk hnm hW hS hl
  have hx := X.1.1
  have hb := X.1.2.1
  have hG := X.1.2.2.2.2
  have hA24 := hs.2.2.1
  have hK30 := hs.2.2.2.1
  have hl : lv_has ls 4 [(0, .ref (ad 13 0)), (1, .int a), (2, .int t)] := hl
  refine lv_aload_n hx hb dX5_bind_0 rfl (lv_at hl 0 rfl) ?_
  refine lv_iload_n hx hb dX5_bind_1 rfl (lv_at hl 1 rfl) ?_
  refine w_cV1 X hS (m_X5_is l G ad nA nK mA mK E I J a hs) rfl rfl g615 g4 g612 g614 p30 hd_X5_is ⟨Nat.le_of_ble_eq_true rfl, Nat.le_of_ble_eq_true rfl⟩ (k_rec X hW 13 0 Nat.zero_lt_one rfl rfl) hW hl.1 rfl (Nat.le_of_ble_eq_true rfl) dX5_bind_2 (Nat.zero_le _) (Nat.zero_le _) (fun H locs hW hS => ?_)
  refine lb_if_ne (tgt := 12) hx hb dX5_bind_5 (by decide) (fun c_1 => ?_) (fun c_1 => ?_)
  · skip
    obtain ⟨i2, hi2, rfl⟩ := mIs_nat (by omega) c_1
    have hk2 : kAns mA (nI i2) = some i2 := kAns_lt hi2 (by omega)
    have hl : lv_has ls 4 [(0, .ref (ad 13 0)), (1, .int (nI i2)), (2, .int t)] := hl
    refine lv_iload_n hx hb dX5_bind_12 rfl (lv_at hl 2 rfl) ?_
    refine lv_i2l (v := Int32.toInt64 t) hx hb dX5_bind_13 rfl ?_
    refine lv_lconst (v := 0) hx hb dX5_bind_14 (by decide) ?_
    refine lv_ldc2 hx hb X.1.2.2.2.1 (hG _ g602) dX5_bind_15 ?_
    refine w_cS1 X hS (m_X5_in l G (Wd G ad nA nK I J) (Int32.toInt64 t) 0 1023 ) rfl rfl g583 g4 g581 g582 hd_X5_in ⟨Nat.le_of_ble_eq_true rfl, Nat.le_of_ble_eq_true rfl⟩ hW hl.1 rfl (Nat.le_of_ble_eq_true rfl) dX5_bind_18 (Nat.zero_le _) (Nat.zero_le _) (fun H locs hW hS => ?_)
    refine lb_if_ne (tgt := 28) hx hb dX5_bind_21 (by decide) (fun c_3 => ?_) (fun c_3 => ?_)
    · skip
      refine lv_aload_n hx hb dX5_bind_28 rfl (lv_at hl 0 rfl) ?_
      refine lv_iload_n hx hb dX5_bind_29 rfl (lv_at hl 1 rfl) ?_
      refine w_cV1 X hS (m_X5_isPlain l G ad nA nK mA mK E I J i2 hs (by first | assumption | omega)) rfl rfl g619 g4 g616 g618 p31 hd_X5_isPlain ⟨Nat.le_of_ble_eq_true rfl, Nat.le_of_ble_eq_true rfl⟩ (k_rec X hW 13 0 Nat.zero_lt_one rfl rfl) hW hl.1 rfl (Nat.le_of_ble_eq_true rfl) dX5_bind_30 (Nat.zero_le _) (Nat.zero_le _) (fun H locs hW hS => ?_)
      refine lb_if_ne (tgt := 40) hx hb dX5_bind_33 (by decide) (fun c_4 => ?_) (fun c_4 => ?_)
      · skip
        refine lv_aload_n hx hb dX5_bind_40 rfl (lv_at hl 0 rfl) ?_
        refine w_get X hW 13 0 Nat.zero_lt_one rfl rfl inG5 12 (by decide) g510 rfl dX5_bind_41 ?_
        refine lv_iload_n hx hb dX5_bind_44 rfl (lv_at hl 1 rfl) ?_
        refine w_ialdN (i := i2) X hW 32 0 Nat.zero_lt_one rfl (by omega) dX5_bind_45 ?_
        refine lv_istore_n (lv' := [(3, .int (I 32 0 i2)), (0, .ref (ad 13 0)), (1, .int (nI i2)), (2, .int t)]) hx hb dX5_bind_46 rfl hl (by decide) rfl (fun ls hl => ?_)
        refine lv_aload_n hx hb dX5_bind_47 rfl (lv_at hl 1 rfl) ?_
        refine w_get X hW 13 0 Nat.zero_lt_one rfl rfl inG5 12 (by decide) g510 rfl dX5_bind_48 ?_
        refine lv_iload_n hx hb dX5_bind_51 rfl (lv_at hl 2 rfl) ?_
        refine lv_iload_n hx hb dX5_bind_52 rfl (lv_at hl 3 rfl) ?_
        refine w_iastN (i := i2) X hW hS 32 0 Nat.zero_lt_one rfl (by omega) rfl dX5_bind_53 (fun H locs hW hS => ?_)
        obtain ⟨I5, eI5⟩ : ∃ z, z = k_up I 32 0 (upd (I 32 0) i2 t) := ⟨_, rfl⟩
        rw [← eI5] at hW
        have hs5 : m_S mA mK E I5 := by rw [eI5]; exact hs.up 32 _ _ (by decide)
        refine lv_iload_n hx hb dX5_bind_54 rfl (lv_at hl 0 rfl) ?_
        exact w_iret X hr hlk hS (by first | rfl | (simp [mcBind, mw, c_1, hk2, c_3, c_4, eI5]; done) | (subst eI5; simp [mcBind, mw, c_1, hk2, c_3, c_4]; done) | (simp [mcBind, mw, c_1, hk2, c_3, c_4, eI5]; rfl)) (hW.to (by first | rfl | (subst eI5; simp [mcBind, mw, c_1, hk2, c_3, c_4]; done) | (subst eI5; rfl) | (subst eI5; simp [mcBind, mw, c_1, hk2, c_3, c_4]; done) | (subst eI5; simp [mcBind, mw, c_1, hk2, c_3, c_4]; rfl) | (simp [mcBind, mw, c_1, hk2, c_3, c_4, eI5]; done)) (by first | rfl | (subst eI5; simp [mcBind, mw, c_1, hk2, c_3, c_4]; done) | (subst eI5; rfl) | (subst eI5; simp [mcBind, mw, c_1, hk2, c_3, c_4]; done) | (subst eI5; simp [mcBind, mw, c_1, hk2, c_3, c_4]; rfl) | (simp [mcBind, mw, c_1, hk2, c_3, c_4, eI5]; done))) dX5_bind_55
      · skip
        refine lv_sipush (v := (-1003)) hx hb dX5_bind_36 (by decide) ?_
        exact w_iret X hr hlk hS (by first | rfl | (simp [mcBind, mw, c_1, hk2, c_3, c_4]; done) | (simp [mcBind, mw, c_1, hk2, c_3, c_4]; rfl)) (hW.to (by first | rfl | (simp [mcBind, mw, c_1, hk2, c_3, c_4]; done)) (by first | rfl | (simp [mcBind, mw, c_1, hk2, c_3, c_4]; done))) dX5_bind_39
    · skip
      refine lv_sipush (v := (-1002)) hx hb dX5_bind_24 (by decide) ?_
      exact w_iret X hr hlk hS (by first | rfl | (simp [mcBind, mw, c_1, hk2, c_3]; done) | (simp [mcBind, mw, c_1, hk2, c_3]; rfl)) (hW.to (by first | rfl | (simp [mcBind, mw, c_1, hk2, c_3]; done)) (by first | rfl | (simp [mcBind, mw, c_1, hk2, c_3]; done))) dX5_bind_27
  · skip
    have hk6 : kAns mA a = none := mIs_none (by omega) c_1
    refine lv_sipush (v := (-1001)) hx hb dX5_bind_8 (by decide) ?_
    exact w_iret X hr hlk hS (by first | rfl | (simp [mcBind, mw, c_1, hk6]; done) | (simp [mcBind, mw, c_1, hk6]; rfl)) (hW.to (by first | rfl | (simp [mcBind, mw, c_1, hk6]; done)) (by first | rfl | (simp [mcBind, mw, c_1, hk6]; done))) dX5_bind_11
set_option maxHeartbeats 4000000 in
set_option maxRecDepth 100000 in
theorem m_X5_confirm (l : Launch) (G : k_G) (ad : Nat → Nat → Nat) (nA nK : Nat) (mA mK : Nat) (E : Nat → Nat) (I : k_I) (J : k_J) (a : Int32) (hs : m_S mA mK E I) : k_Met l yX5_confirm cX5_confirm 2 (some FieldType.int) { frames := 3, cells := 0, slots := 0, locals := 69 } G [.ref (ad 13 0), .int a] (Wd G ad nA nK I J) (some (.int ((mcConfirm E mA a (I, J)).1))) (Wd G ad nA nK ((mcConfirm E mA a (I, J)).2.1) ((mcConfirm E mA a (I, J)).2.2)) 0 0 := by
  refine k_body (by decide) (Nat.le_of_ble_eq_true rfl) ?_
  intro p e s m below meth c ls X hr hlk hnm hW hS hl
  have hx := X.1.1
  have hb := X.1.2.1
  have hG := X.1.2.2.2.2
  have hA24 := hs.2.2.1
  have hK30 := hs.2.2.2.1
  have hl : lv_has ls 2 [(0, .ref (ad 13 0)), (1, .int a)] := hl
  refine lv_aload_n hx hb dX5_confirm_0 rfl (lv_at hl 0 rfl) ?_
  refine lv_iload_n hx hb dX5_confirm_1 rfl (lv_at hl 1 rfl) ?_
  refine w_cV1 X hS (m_X5_is l G ad nA nK mA mK E I J a hs) rfl rfl g615 g4 g612 g614 p30 hd_X5_is ⟨Nat.le_of_ble_eq_true rfl, Nat.le_of_ble_eq_true rfl⟩ (k_rec X hW 13 0 Nat.zero_lt_one rfl rfl) hW hl.1 rfl (Nat.le_of_ble_eq_true rfl) dX5_confirm_2 (Nat.zero_le _) (Nat.zero_le _) (fun H locs hW hS => ?_)
  refine lb_if_ne (tgt := 12) hx hb dX5_confirm_5 (by decide) (fun c_1 => ?_) (fun c_1 => ?_)
  · skip
    obtain ⟨i2, hi2, rfl⟩ := mIs_nat (by omega) c_1
    have hk2 : kAns mA (nI i2) = some i2 := kAns_lt hi2 (by omega)
    have hl : lv_has ls 2 [(0, .ref (ad 13 0)), (1, .int (nI i2))] := hl
    refine lv_aload_n hx hb dX5_confirm_12 rfl (lv_at hl 0 rfl) ?_
    refine lv_iload_n hx hb dX5_confirm_13 rfl (lv_at hl 1 rfl) ?_
    refine w_cV1 X hS (m_X5_isPlain l G ad nA nK mA mK E I J i2 hs (by first | assumption | omega)) rfl rfl g619 g4 g616 g618 p31 hd_X5_isPlain ⟨Nat.le_of_ble_eq_true rfl, Nat.le_of_ble_eq_true rfl⟩ (k_rec X hW 13 0 Nat.zero_lt_one rfl rfl) hW hl.1 rfl (Nat.le_of_ble_eq_true rfl) dX5_confirm_14 (Nat.zero_le _) (Nat.zero_le _) (fun H locs hW hS => ?_)
    refine lb_if_ne (tgt := 24) hx hb dX5_confirm_17 (by decide) (fun c_3 => ?_) (fun c_3 => ?_)
    · skip
      refine lv_aload_n hx hb dX5_confirm_24 rfl (lv_at hl 0 rfl) ?_
      refine w_cVv X hS (m_X5_work l G ad nA nK mA mK E I J  hs) rfl rfl g631 g4 g628 g630 p32 hd_X5_work ⟨Nat.le_of_ble_eq_true rfl, Nat.le_of_ble_eq_true rfl⟩ (k_rec X hW 13 0 Nat.zero_lt_one rfl rfl) hW hl.1 rfl (Nat.le_of_ble_eq_true rfl) dX5_confirm_25 (Nat.zero_le _) (Nat.zero_le _) (fun H locs hW hS => ?_)
      obtain ⟨I4, eI4⟩ : ∃ z, z = (mWork E mA (I, J)).1 := ⟨_, rfl⟩
      rw [← eI4] at hW
      have hs4 : m_S mA mK E I4 := by rw [eI4]; exact (mWork_S (s := (I, J)) hs)
      obtain ⟨J4, eJ4⟩ : ∃ z, z = (mWork E mA (I, J)).2 := ⟨_, rfl⟩
      rw [← eJ4] at hW
      refine lv_aload_n hx hb dX5_confirm_28 rfl (lv_at hl 0 rfl) ?_
      refine w_get X hW 13 0 Nat.zero_lt_one rfl rfl inG5 13 (by decide) g511 rfl dX5_confirm_29 ?_
      refine lv_iload_n hx hb dX5_confirm_32 rfl (lv_at hl 1 rfl) ?_
      refine lv_aload_n hx hb dX5_confirm_33 rfl (lv_at hl 0 rfl) ?_
      refine w_get X hW 13 0 Nat.zero_lt_one rfl rfl inG5 3 (by decide) g501 rfl dX5_confirm_34 ?_
      refine w_iastN (i := i2) X hW hS 33 0 Nat.zero_lt_one rfl (by omega) rfl dX5_confirm_37 (fun H locs hW hS => ?_)
      obtain ⟨I5, eI5⟩ : ∃ z, z = k_up I4 33 0 (upd (I4 33 0) i2 (I4 13 0 3)) := ⟨_, rfl⟩
      rw [← eI5] at hW
      have hs5 : m_S mA mK E I5 := by rw [eI5]; exact hs4.up 33 _ _ (by decide)
      refine lv_aload_n hx hb dX5_confirm_38 rfl (lv_at hl 0 rfl) ?_
      refine w_get X hW 13 0 Nat.zero_lt_one rfl rfl inG5 23 (by decide) g521 rfl dX5_confirm_39 ?_
      refine lv_iload_n hx hb dX5_confirm_42 rfl (lv_at hl 1 rfl) ?_
      refine w_zaldN (i := i2) X hW 43 0 Nat.zero_lt_one rfl (by omega) dX5_confirm_43 ?_
      refine lv_if_eq (tgt := 51) hx hb dX5_confirm_44 (by decide) (fun c_6 => ?_) (fun c_6 => ?_)
      · skip
        refine lv_iconst (v := 0) hx hb dX5_confirm_51 (by decide) ?_
        exact w_iret X hr hlk hS (by first | rfl | (simp [mcConfirm, mcCo1, mw, c_1, hk2, c_3, c_6, eI4, eJ4, eI5]; done) | (subst eI5 eJ4 eI4; simp [mcConfirm, mcCo1, mw, c_1, hk2, c_3, c_6]; done) | (simp [mcConfirm, mcCo1, mw, c_1, hk2, c_3, c_6, eI4, eJ4, eI5]; rfl)) (hW.to (by first | rfl | (subst eI5 eJ4 eI4; simp [mcConfirm, mcCo1, mw, c_1, hk2, c_3, c_6]; done) | (subst eI5 eJ4 eI4; rfl) | (subst eI5 eJ4 eI4; simp [mcConfirm, mcCo1, mw, c_1, hk2, c_3, c_6]; done) | (subst eI5 eJ4 eI4; simp [mcConfirm, mcCo1, mw, c_1, hk2, c_3, c_6]; rfl) | (simp [mcConfirm, mcCo1, mw, c_1, hk2, c_3, c_6, eI4, eJ4, eI5]; done)) (by first | rfl | (subst eI5 eJ4 eI4; simp [mcConfirm, mcCo1, mw, c_1, hk2, c_3, c_6]; done) | (subst eI5 eJ4 eI4; rfl) | (subst eI5 eJ4 eI4; simp [mcConfirm, mcCo1, mw, c_1, hk2, c_3, c_6]; done) | (subst eI5 eJ4 eI4; simp [mcConfirm, mcCo1, mw, c_1, hk2, c_3, c_6]; rfl) | (simp [mcConfirm, mcCo1, mw, c_1, hk2, c_3, c_6, eI4, eJ4, eI5]; done))) dX5_confirm_52
      · skip
        refine lv_iconst (v := 1) hx hb dX5_confirm_47 (by decide) ?_
        refine lv_goto (tgt := 52) hx hb dX5_confirm_48 (by decide) ?_
        exact w_iret X hr hlk hS (by first | rfl | (simp [mcConfirm, mcCo1, mw, c_1, hk2, c_3, c_6, eI4, eJ4, eI5]; done) | (subst eI5 eJ4 eI4; simp [mcConfirm, mcCo1, mw, c_1, hk2, c_3, c_6]; done) | (simp [mcConfirm, mcCo1, mw, c_1, hk2, c_3, c_6, eI4, eJ4, eI5]; rfl)) (hW.to (by first | rfl | (subst eI5 eJ4 eI4; simp [mcConfirm, mcCo1, mw, c_1, hk2, c_3, c_6]; done) | (subst eI5 eJ4 eI4; rfl) | (subst eI5 eJ4 eI4; simp [mcConfirm, mcCo1, mw, c_1, hk2, c_3, c_6]; done) | (subst eI5 eJ4 eI4; simp [mcConfirm, mcCo1, mw, c_1, hk2, c_3, c_6]; rfl) | (simp [mcConfirm, mcCo1, mw, c_1, hk2, c_3, c_6, eI4, eJ4, eI5]; done)) (by first | rfl | (subst eI5 eJ4 eI4; simp [mcConfirm, mcCo1, mw, c_1, hk2, c_3, c_6]; done) | (subst eI5 eJ4 eI4; rfl) | (subst eI5 eJ4 eI4; simp [mcConfirm, mcCo1, mw, c_1, hk2, c_3, c_6]; done) | (subst eI5 eJ4 eI4; simp [mcConfirm, mcCo1, mw, c_1, hk2, c_3, c_6]; rfl) | (simp [mcConfirm, mcCo1, mw, c_1, hk2, c_3, c_6, eI4, eJ4, eI5]; done))) dX5_confirm_52
    · skip
      refine lv_sipush (v := (-1003)) hx hb dX5_confirm_20 (by decide) ?_
      exact w_iret X hr hlk hS (by first | rfl | (simp [mcConfirm, mcCo1, mw, c_1, hk2, c_3]; done) | (simp [mcConfirm, mcCo1, mw, c_1, hk2, c_3]; rfl)) (hW.to (by first | rfl | (simp [mcConfirm, mcCo1, mw, c_1, hk2, c_3]; done)) (by first | rfl | (simp [mcConfirm, mcCo1, mw, c_1, hk2, c_3]; done))) dX5_confirm_23
  · skip
    have hk7 : kAns mA a = none := mIs_none (by omega) c_1
    refine lv_sipush (v := (-1001)) hx hb dX5_confirm_8 (by decide) ?_
    exact w_iret X hr hlk hS (by first | rfl | (simp [mcConfirm, mcCo1, mw, c_1, hk7]; done) | (simp [mcConfirm, mcCo1, mw, c_1, hk7]; rfl)) (hW.to (by first | rfl | (simp [mcConfirm, mcCo1, mw, c_1, hk7]; done)) (by first | rfl | (simp [mcConfirm, mcCo1, mw, c_1, hk7]; done))) dX5_confirm_11
set_option maxHeartbeats 4000000 in
set_option maxRecDepth 100000 in
theorem m_X5_move (l : Launch) (G : k_G) (ad : Nat → Nat → Nat) (nA nK : Nat) (mA mK : Nat) (E : Nat → Nat) (I : k_I) (J : k_J) (a : Int32) (b : Int32) (hs : m_S mA mK E I) : k_Met l yX5_move cX5_move 4 (some FieldType.int) { frames := 2, cells := 0, slots := 0, locals := 47 } G [.ref (ad 13 0), .int a, .int b] (Wd G ad nA nK I J) (some (.int ((mcMove E mA a b (I, J)).1))) (Wd G ad nA nK ((mcMove E mA a b (I, J)).2.1) ((mcMove E mA a b (I, J)).2.2)) 0 0 := by
  refine k_body (by decide) (Nat.le_of_ble_eq_true rfl) ?_
  intro p e s m below meth c ls X hr hlk hnm hW hS hl
  have hx := X.1.1
  have hb := X.1.2.1
  have hG := X.1.2.2.2.2
  have hA24 := hs.2.2.1
  have hK30 := hs.2.2.2.1
  have hl : lv_has ls 4 [(0, .ref (ad 13 0)), (1, .int a), (2, .int b)] := hl
  refine lv_aload_n hx hb dX5_move_0 rfl (lv_at hl 0 rfl) ?_
  refine lv_iload_n hx hb dX5_move_1 rfl (lv_at hl 1 rfl) ?_
  refine w_cV1 X hS (m_X5_is l G ad nA nK mA mK E I J a hs) rfl rfl g615 g4 g612 g614 p30 hd_X5_is ⟨Nat.le_of_ble_eq_true rfl, Nat.le_of_ble_eq_true rfl⟩ (k_rec X hW 13 0 Nat.zero_lt_one rfl rfl) hW hl.1 rfl (Nat.le_of_ble_eq_true rfl) dX5_move_2 (Nat.zero_le _) (Nat.zero_le _) (fun H locs hW hS => ?_)
  refine lb_if_eq (tgt := 16) hx hb dX5_move_5 (by decide) (fun c_1 => ?_) (fun c_1 => ?_)
  · skip
    have hk2 : kAns mA a = none := mIs_none (by omega) c_1
    refine lv_sipush (v := (-1001)) hx hb dX5_move_16 (by decide) ?_
    exact w_iret X hr hlk hS (by first | rfl | (simp [mcMove, mw, c_1, hk2]; done) | (simp [mcMove, mw, c_1, hk2]; rfl)) (hW.to (by first | rfl | (simp [mcMove, mw, c_1, hk2]; done)) (by first | rfl | (simp [mcMove, mw, c_1, hk2]; done))) dX5_move_19
  · skip
    obtain ⟨i3, hi3, rfl⟩ := mIs_nat (by omega) c_1
    have hk3 : kAns mA (nI i3) = some i3 := kAns_lt hi3 (by omega)
    have hl : lv_has ls 4 [(0, .ref (ad 13 0)), (1, .int (nI i3)), (2, .int b)] := hl
    refine lv_aload_n hx hb dX5_move_8 rfl (lv_at hl 0 rfl) ?_
    refine lv_iload_n hx hb dX5_move_9 rfl (lv_at hl 2 rfl) ?_
    refine w_cV1 X hS (m_X5_is l G ad nA nK mA mK E I J b hs) rfl rfl g615 g4 g612 g614 p30 hd_X5_is ⟨Nat.le_of_ble_eq_true rfl, Nat.le_of_ble_eq_true rfl⟩ (k_rec X hW 13 0 Nat.zero_lt_one rfl rfl) hW hl.1 rfl (Nat.le_of_ble_eq_true rfl) dX5_move_10 (Nat.zero_le _) (Nat.zero_le _) (fun H locs hW hS => ?_)
    refine lb_if_ne (tgt := 20) hx hb dX5_move_13 (by decide) (fun c_4 => ?_) (fun c_4 => ?_)
    · skip
      obtain ⟨i5, hi5, rfl⟩ := mIs_nat (by omega) c_4
      have hk5 : kAns mA (nI i5) = some i5 := kAns_lt hi5 (by omega)
      have hl : lv_has ls 4 [(0, .ref (ad 13 0)), (1, .int (nI i3)), (2, .int (nI i5))] := hl
      refine lv_aload_n hx hb dX5_move_20 rfl (lv_at hl 0 rfl) ?_
      refine lv_iload_n hx hb dX5_move_21 rfl (lv_at hl 2 rfl) ?_
      refine w_cV1 X hS (m_X5_endOf l G ad nA nK mA mK E I J i5 hs (by omega)) rfl rfl g643 g4 g640 g642 p35 hd_X5_endOf ⟨Nat.le_of_ble_eq_true rfl, Nat.le_of_ble_eq_true rfl⟩ (k_rec X hW 13 0 Nat.zero_lt_one rfl rfl) hW hl.1 rfl (Nat.le_of_ble_eq_true rfl) dX5_move_22 (Nat.zero_le _) (Nat.zero_le _) (fun H locs hW hS => ?_)
      have hE6 : E i5 < mA := (hs.2.2.2.2.1 i5 (by omega)).1
      refine lv_istore_n (lv' := [(3, .int (nI (E i5))), (0, .ref (ad 13 0)), (1, .int (nI i3)), (2, .int (nI i5))]) hx hb dX5_move_25 rfl hl (by decide) rfl (fun ls hl => ?_)
      refine lv_aload_n hx hb dX5_move_26 rfl (lv_at hl 1 rfl) ?_
      refine w_get X hW 13 0 Nat.zero_lt_one rfl rfl inG5 8 (by decide) g506 rfl dX5_move_27 ?_
      refine lv_iload_n hx hb dX5_move_30 rfl (lv_at hl 2 rfl) ?_
      refine w_ialdN (i := i3) X hW 28 0 Nat.zero_lt_one rfl (by omega) dX5_move_31 ?_
      refine lv_if_ge (tgt := 49) hx hb dX5_move_32 (by decide) (fun c_7 => ?_) (fun c_7 => ?_)
      · skip
        have c_7' : ¬ I 28 0 i3 < 0 := Int32.not_lt.mpr c_7
        refine lv_sipush (v := (-1003)) hx hb dX5_move_49 (by decide) ?_
        exact w_iret X hr hlk hS (by first | rfl | (simp [mcMove, mw, c_1, hk3, c_4, hk5, c_7, c_7']; done) | (simp [mcMove, mw, c_1, hk3, c_4, hk5, c_7, c_7']; rfl)) (hW.to (by first | rfl | (simp [mcMove, mw, c_1, hk3, c_4, hk5, c_7, c_7']; done)) (by first | rfl | (simp [mcMove, mw, c_1, hk3, c_4, hk5, c_7, c_7']; done))) dX5_move_52
      · skip
        have c_7' : I 28 0 i3 < 0 := Int32.not_le.mp c_7
        refine lv_iload_n hx hb dX5_move_35 rfl (lv_at hl 0 rfl) ?_
        refine lv_iload_n hx hb dX5_move_36 rfl (lv_at hl 2 rfl) ?_
        refine lv_icmp_eq (tgt := 49) hx hb dX5_move_37 (by decide) (fun c_8 => ?_) (fun c_8 => ?_)
        · skip
          refine lv_sipush (v := (-1003)) hx hb dX5_move_49 (by decide) ?_
          exact w_iret X hr hlk hS (by first | rfl | (simp [mcMove, mw, c_1, hk3, c_4, hk5, c_7, c_7', c_8]; done) | (simp [mcMove, mw, c_1, hk3, c_4, hk5, c_7, c_7', c_8]; rfl)) (hW.to (by first | rfl | (simp [mcMove, mw, c_1, hk3, c_4, hk5, c_7, c_7', c_8]; done)) (by first | rfl | (simp [mcMove, mw, c_1, hk3, c_4, hk5, c_7, c_7', c_8]; done))) dX5_move_52
        · skip
          refine lv_aload_n hx hb dX5_move_40 rfl (lv_at hl 1 rfl) ?_
          refine lv_iload_n hx hb dX5_move_41 rfl (lv_at hl 0 rfl) ?_
          refine lv_iload_n hx hb dX5_move_42 rfl (lv_at hl 2 rfl) ?_
          refine w_cV1 X hS (m_X5_hasPart l G ad nA nK mA mK E I J (E i5) i3 hs (by first | assumption | omega) (by first | assumption | omega)) rfl rfl g654 g4 g651 g653 p36 hd_X5_hasPart ⟨Nat.le_of_ble_eq_true rfl, Nat.le_of_ble_eq_true rfl⟩ (k_rec X hW 13 0 Nat.zero_lt_one rfl rfl) hW hl.1 rfl (Nat.le_of_ble_eq_true rfl) dX5_move_43 (Nat.zero_le _) (Nat.zero_le _) (fun H locs hW hS => ?_)
          obtain ⟨I9, eI9⟩ : ∃ z, z = mHP E mA (E i5) I := ⟨_, rfl⟩
          rw [← eI9] at hW
          have hs9 : m_S mA mK E I9 := by rw [eI9]; exact (mHP_S hs)
          refine lb_if_eq (tgt := 53) hx hb dX5_move_46 (by decide) (fun c_10 => ?_) (fun c_10 => ?_)
          · skip
            have c_10' : (mHP E mA (E i5) I 39 0 i3 = 0) := by simpa using c_10
            refine lv_aload_n hx hb dX5_move_53 rfl (lv_at hl 1 rfl) ?_
            refine w_get X hW 13 0 Nat.zero_lt_one rfl rfl inG5 8 (by decide) g506 rfl dX5_move_54 ?_
            refine lv_iload_n hx hb dX5_move_57 rfl (lv_at hl 2 rfl) ?_
            refine lv_iload_n hx hb dX5_move_58 rfl (lv_at hl 3 rfl) ?_
            refine w_iastN (i := i3) X hW hS 28 0 Nat.zero_lt_one rfl (by omega) rfl dX5_move_59 (fun H locs hW hS => ?_)
            obtain ⟨I11, eI11⟩ : ∃ z, z = k_up I9 28 0 (upd (I9 28 0) i3 (nI i5)) := ⟨_, rfl⟩
            rw [← eI11] at hW
            refine lv_iload_n hx hb dX5_move_60 rfl (lv_at hl 0 rfl) ?_
            exact w_iret X hr hlk hS (by first | rfl | (simp [mcMove, mw, c_1, hk3, c_4, hk5, c_7, c_7', c_8, c_10, c_10', eI9, eI11]; done) | (subst eI11 eI9; simp [mcMove, mw, c_1, hk3, c_4, hk5, c_7, c_7', c_8, c_10, c_10']; done) | (simp [mcMove, mw, c_1, hk3, c_4, hk5, c_7, c_7', c_8, c_10, c_10', eI9, eI11]; rfl)) (hW.to (by first | rfl | (subst eI11 eI9; simp [mcMove, mw, c_1, hk3, c_4, hk5, c_7, c_7', c_8, c_10, c_10']; done) | (subst eI11 eI9; rfl) | (subst eI11 eI9; simp [mcMove, mw, c_1, hk3, c_4, hk5, c_7, c_7', c_8, c_10, c_10']; done) | (subst eI11 eI9; simp [mcMove, mw, c_1, hk3, c_4, hk5, c_7, c_7', c_8, c_10, c_10']; rfl) | (simp [mcMove, mw, c_1, hk3, c_4, hk5, c_7, c_7', c_8, c_10, c_10', eI9, eI11]; done)) (by first | rfl | (subst eI11 eI9; simp [mcMove, mw, c_1, hk3, c_4, hk5, c_7, c_7', c_8, c_10, c_10']; done) | (subst eI11 eI9; rfl) | (subst eI11 eI9; simp [mcMove, mw, c_1, hk3, c_4, hk5, c_7, c_7', c_8, c_10, c_10']; done) | (subst eI11 eI9; simp [mcMove, mw, c_1, hk3, c_4, hk5, c_7, c_7', c_8, c_10, c_10']; rfl) | (simp [mcMove, mw, c_1, hk3, c_4, hk5, c_7, c_7', c_8, c_10, c_10', eI9, eI11]; done))) dX5_move_61
          · skip
            have c_10' : ¬ (mHP E mA (E i5) I 39 0 i3 = 0) := by simpa using c_10
            refine lv_sipush (v := (-1003)) hx hb dX5_move_49 (by decide) ?_
            exact w_iret X hr hlk hS (by first | rfl | (simp [mcMove, mw, c_1, hk3, c_4, hk5, c_7, c_7', c_8, c_10, c_10', eI9]; done) | (subst eI9; simp [mcMove, mw, c_1, hk3, c_4, hk5, c_7, c_7', c_8, c_10, c_10']; done) | (simp [mcMove, mw, c_1, hk3, c_4, hk5, c_7, c_7', c_8, c_10, c_10', eI9]; rfl)) (hW.to (by first | rfl | (subst eI9; simp [mcMove, mw, c_1, hk3, c_4, hk5, c_7, c_7', c_8, c_10, c_10']; done) | (subst eI9; rfl) | (subst eI9; simp [mcMove, mw, c_1, hk3, c_4, hk5, c_7, c_7', c_8, c_10, c_10']; done) | (subst eI9; simp [mcMove, mw, c_1, hk3, c_4, hk5, c_7, c_7', c_8, c_10, c_10']; rfl) | (simp [mcMove, mw, c_1, hk3, c_4, hk5, c_7, c_7', c_8, c_10, c_10', eI9]; done)) (by first | rfl | (subst eI9; simp [mcMove, mw, c_1, hk3, c_4, hk5, c_7, c_7', c_8, c_10, c_10']; done) | (subst eI9; rfl) | (subst eI9; simp [mcMove, mw, c_1, hk3, c_4, hk5, c_7, c_7', c_8, c_10, c_10']; done) | (subst eI9; simp [mcMove, mw, c_1, hk3, c_4, hk5, c_7, c_7', c_8, c_10, c_10']; rfl) | (simp [mcMove, mw, c_1, hk3, c_4, hk5, c_7, c_7', c_8, c_10, c_10', eI9]; done))) dX5_move_52
    · skip
      have hk12 : kAns mA b = none := mIs_none (by omega) c_4
      refine lv_sipush (v := (-1001)) hx hb dX5_move_16 (by decide) ?_
      exact w_iret X hr hlk hS (by first | rfl | (simp [mcMove, mw, c_1, hk3, c_4, hk12]; done) | (simp [mcMove, mw, c_1, hk3, c_4, hk12]; rfl)) (hW.to (by first | rfl | (simp [mcMove, mw, c_1, hk3, c_4, hk12]; done)) (by first | rfl | (simp [mcMove, mw, c_1, hk3, c_4, hk12]; done))) dX5_move_19
set_option maxHeartbeats 4000000 in
set_option maxRecDepth 100000 in
theorem m_X5_melt (l : Launch) (G : k_G) (ad : Nat → Nat → Nat) (nA nK : Nat) (mA mK : Nat) (E : Nat → Nat) (I : k_I) (J : k_J) (a : Int32) (b : Int32) (hs : m_S mA mK E I) : k_Met l yX5_melt cX5_melt 5 (some FieldType.int) { frames := 2, cells := 0, slots := 0, locals := 46 } G [.ref (ad 13 0), .int a, .int b] (Wd G ad nA nK I J) (some (.int ((mcMelt mA a b (I, J)).1))) (Wd G ad nA nK ((mcMelt mA a b (I, J)).2.1) ((mcMelt mA a b (I, J)).2.2)) 0 0 := by
  refine k_body (by decide) (Nat.le_of_ble_eq_true rfl) ?_
  intro p e s m below meth c ls X hr hlk hnm hW hS hl
  have hx := X.1.1
  have hb := X.1.2.1
  have hG := X.1.2.2.2.2
  have hA24 := hs.2.2.1
  have hK30 := hs.2.2.2.1
  have hl : lv_has ls 5 [(0, .ref (ad 13 0)), (1, .int a), (2, .int b)] := hl
  refine lv_aload_n hx hb dX5_melt_0 rfl (lv_at hl 0 rfl) ?_
  refine lv_iload_n hx hb dX5_melt_1 rfl (lv_at hl 1 rfl) ?_
  refine w_cV1 X hS (m_X5_is l G ad nA nK mA mK E I J a hs) rfl rfl g615 g4 g612 g614 p30 hd_X5_is ⟨Nat.le_of_ble_eq_true rfl, Nat.le_of_ble_eq_true rfl⟩ (k_rec X hW 13 0 Nat.zero_lt_one rfl rfl) hW hl.1 rfl (Nat.le_of_ble_eq_true rfl) dX5_melt_2 (Nat.zero_le _) (Nat.zero_le _) (fun H locs hW hS => ?_)
  refine lb_if_eq (tgt := 16) hx hb dX5_melt_5 (by decide) (fun c_1 => ?_) (fun c_1 => ?_)
  · skip
    have hk2 : kAns mA a = none := mIs_none (by omega) c_1
    refine lv_sipush (v := (-1001)) hx hb dX5_melt_16 (by decide) ?_
    exact w_iret X hr hlk hS (by first | rfl | (simp [mcMelt, mMay, mMe, mMe1, mMe2, mMe3, mMeJ, mw, mwJ, c_1, hk2]; done) | (simp [mcMelt, mMay, mMe, mMe1, mMe2, mMe3, mMeJ, mw, mwJ, c_1, hk2]; rfl)) (hW.to (by first | rfl | (simp [mcMelt, mMay, mMe, mMe1, mMe2, mMe3, mMeJ, mw, mwJ, c_1, hk2]; done)) (by first | rfl | (simp [mcMelt, mMay, mMe, mMe1, mMe2, mMe3, mMeJ, mw, mwJ, c_1, hk2]; done))) dX5_melt_19
  · skip
    obtain ⟨i3, hi3, rfl⟩ := mIs_nat (by omega) c_1
    have hk3 : kAns mA (nI i3) = some i3 := kAns_lt hi3 (by omega)
    have hl : lv_has ls 5 [(0, .ref (ad 13 0)), (1, .int (nI i3)), (2, .int b)] := hl
    refine lv_aload_n hx hb dX5_melt_8 rfl (lv_at hl 0 rfl) ?_
    refine lv_iload_n hx hb dX5_melt_9 rfl (lv_at hl 2 rfl) ?_
    refine w_cV1 X hS (m_X5_is l G ad nA nK mA mK E I J b hs) rfl rfl g615 g4 g612 g614 p30 hd_X5_is ⟨Nat.le_of_ble_eq_true rfl, Nat.le_of_ble_eq_true rfl⟩ (k_rec X hW 13 0 Nat.zero_lt_one rfl rfl) hW hl.1 rfl (Nat.le_of_ble_eq_true rfl) dX5_melt_10 (Nat.zero_le _) (Nat.zero_le _) (fun H locs hW hS => ?_)
    refine lb_if_ne (tgt := 20) hx hb dX5_melt_13 (by decide) (fun c_4 => ?_) (fun c_4 => ?_)
    · skip
      obtain ⟨i5, hi5, rfl⟩ := mIs_nat (by omega) c_4
      have hk5 : kAns mA (nI i5) = some i5 := kAns_lt hi5 (by omega)
      have hl : lv_has ls 5 [(0, .ref (ad 13 0)), (1, .int (nI i3)), (2, .int (nI i5))] := hl
      refine lv_iconst (v := 0) hx hb dX5_melt_20 (by decide) ?_
      refine lv_istore_n (lv' := [(3, .int 0), (0, .ref (ad 13 0)), (1, .int (nI i3)), (2, .int (nI i5))]) hx hb dX5_melt_21 rfl hl (by decide) rfl (fun ls hl => ?_)
      refine lv_iconst (v := 0) hx hb dX5_melt_22 (by decide) ?_
      refine lv_istore (lv' := [(4, .int 0), (3, .int 0), (0, .ref (ad 13 0)), (1, .int (nI i3)), (2, .int (nI i5))]) hx hb dX5_melt_23 hl (by decide) rfl (fun ls hl => ?_)
      have loop25 : ∀ (d k : Nat) (n : Int32), k + d = 3 → (kLoop (fun k n => n + (if I 31 0 (3 * i3 + k) = I 31 0 (3 * i5 + k) then 1 else 0)) d k n = mLike I i3 i5) → ∀ (H : Heap) (locs : List Loc), Wd G ad nA nK I J H → va_S (k_A G) s.heap H locs → ∀ ls : Array Slot, lv_has ls 5 [(4, .int (nI k)), (3, .int n), (0, .ref (ad 13 0)), (1, .int (nI i3)), (2, .int (nI i5))] → W p l e { frames := 2, cells := 0, slots := 0, locals := 46 } s m ([.ref (ad 13 0), .int (nI i3), .int (nI i5)] : List Value).toArray below meth c H locs 0 0 (MQ below (k_Q G (some (.int ((mcMelt mA (nI i3) (nI i5) (I, J)).1))) (Wd G ad nA nK ((mcMelt mA (nI i3) (nI i5) (I, J)).2.1) ((mcMelt mA (nI i3) (nI i5) (I, J)).2.2))) ([.ref (ad 13 0), .int (nI i3), .int (nI i5)] : List Value).toArray s 0 0 (k_A G)) (F0 m 25 ls []) := by
        intro d
        induction d with
        | zero =>
          intro k n hi25 hz25  H locs hW hS ls hl
          have hz25 : n = mLike I i3 i5 := hz25
          refine lv_iload hx hb dX5_melt_25 (lv_at hl 0 rfl) ?_
          refine lv_iconst (v := 3) hx hb dX5_melt_27 (by decide) ?_
          refine lv_icmp_ge (tgt := 70) hx hb dX5_melt_28 (by decide) (fun _ => ?_) (fun c_6 => absurd (nI_le (a := 3) (b := k) (by omega) (by omega)) c_6)
          refine lv_iload_n hx hb dX5_melt_70 rfl (lv_at hl 3 rfl) ?_
          refine lv_iload_n hx hb dX5_melt_71 rfl (lv_at hl 4 rfl) ?_
          refine lv_icmp_eq (tgt := 129) hx hb dX5_melt_72 (by decide) (fun c_7 => ?_) (fun c_7 => ?_)
          · skip
            refine lv_sipush (v := (-1003)) hx hb dX5_melt_129 (by decide) ?_
            exact w_iret X hr hlk hS (by first | rfl | (simp [mcMelt, mMay, mMe, mMe1, mMe2, mMe3, mMeJ, mw, mwJ, c_1, hk3, c_4, hk5, c_7, ← hz25]; done) | (simp [mcMelt, mMay, mMe, mMe1, mMe2, mMe3, mMeJ, mw, mwJ, c_1, hk3, c_4, hk5, c_7, ← hz25]; rfl)) (hW.to (by first | rfl | (simp [mcMelt, mMay, mMe, mMe1, mMe2, mMe3, mMeJ, mw, mwJ, c_1, hk3, c_4, hk5, c_7, ← hz25]; done)) (by first | rfl | (simp [mcMelt, mMay, mMe, mMe1, mMe2, mMe3, mMeJ, mw, mwJ, c_1, hk3, c_4, hk5, c_7, ← hz25]; done))) dX5_melt_132
          · skip
            refine lv_aload_n hx hb dX5_melt_75 rfl (lv_at hl 2 rfl) ?_
            refine lv_iload_n hx hb dX5_melt_76 rfl (lv_at hl 3 rfl) ?_
            refine w_cV1 X hS (m_X5_isPlain l G ad nA nK mA mK E I J i3 hs (by first | assumption | omega)) rfl rfl g619 g4 g616 g618 p31 hd_X5_isPlain ⟨Nat.le_of_ble_eq_true rfl, Nat.le_of_ble_eq_true rfl⟩ (k_rec X hW 13 0 Nat.zero_lt_one rfl rfl) hW hl.1 rfl (Nat.le_of_ble_eq_true rfl) dX5_melt_77 (Nat.zero_le _) (Nat.zero_le _) (fun H locs hW hS => ?_)
            refine lb_if_eq (tgt := 129) hx hb dX5_melt_80 (by decide) (fun c_8 => ?_) (fun c_8 => ?_)
            · skip
              refine lv_sipush (v := (-1003)) hx hb dX5_melt_129 (by decide) ?_
              exact w_iret X hr hlk hS (by first | rfl | (simp [mcMelt, mMay, mMe, mMe1, mMe2, mMe3, mMeJ, mw, mwJ, c_1, hk3, c_4, hk5, c_7, c_8, ← hz25]; done) | (simp [mcMelt, mMay, mMe, mMe1, mMe2, mMe3, mMeJ, mw, mwJ, c_1, hk3, c_4, hk5, c_7, c_8, ← hz25]; rfl)) (hW.to (by first | rfl | (simp [mcMelt, mMay, mMe, mMe1, mMe2, mMe3, mMeJ, mw, mwJ, c_1, hk3, c_4, hk5, c_7, c_8, ← hz25]; done)) (by first | rfl | (simp [mcMelt, mMay, mMe, mMe1, mMe2, mMe3, mMeJ, mw, mwJ, c_1, hk3, c_4, hk5, c_7, c_8, ← hz25]; done))) dX5_melt_132
            · skip
              refine lv_aload_n hx hb dX5_melt_83 rfl (lv_at hl 2 rfl) ?_
              refine lv_iload_n hx hb dX5_melt_84 rfl (lv_at hl 4 rfl) ?_
              refine w_cV1 X hS (m_X5_isPlain l G ad nA nK mA mK E I J i5 hs (by first | assumption | omega)) rfl rfl g619 g4 g616 g618 p31 hd_X5_isPlain ⟨Nat.le_of_ble_eq_true rfl, Nat.le_of_ble_eq_true rfl⟩ (k_rec X hW 13 0 Nat.zero_lt_one rfl rfl) hW hl.1 rfl (Nat.le_of_ble_eq_true rfl) dX5_melt_85 (Nat.zero_le _) (Nat.zero_le _) (fun H locs hW hS => ?_)
              refine lb_if_eq (tgt := 129) hx hb dX5_melt_88 (by decide) (fun c_9 => ?_) (fun c_9 => ?_)
              · skip
                refine lv_sipush (v := (-1003)) hx hb dX5_melt_129 (by decide) ?_
                exact w_iret X hr hlk hS (by first | rfl | (simp [mcMelt, mMay, mMe, mMe1, mMe2, mMe3, mMeJ, mw, mwJ, c_1, hk3, c_4, hk5, c_7, c_8, c_9, ← hz25]; done) | (simp [mcMelt, mMay, mMe, mMe1, mMe2, mMe3, mMeJ, mw, mwJ, c_1, hk3, c_4, hk5, c_7, c_8, c_9, ← hz25]; rfl)) (hW.to (by first | rfl | (simp [mcMelt, mMay, mMe, mMe1, mMe2, mMe3, mMeJ, mw, mwJ, c_1, hk3, c_4, hk5, c_7, c_8, c_9, ← hz25]; done)) (by first | rfl | (simp [mcMelt, mMay, mMe, mMe1, mMe2, mMe3, mMeJ, mw, mwJ, c_1, hk3, c_4, hk5, c_7, c_8, c_9, ← hz25]; done))) dX5_melt_132
              · skip
                refine lv_aload_n hx hb dX5_melt_91 rfl (lv_at hl 2 rfl) ?_
                refine w_get X hW 13 0 Nat.zero_lt_one rfl rfl inG5 10 (by decide) g508 rfl dX5_melt_92 ?_
                refine lv_iload_n hx hb dX5_melt_95 rfl (lv_at hl 3 rfl) ?_
                refine w_ialdN (i := i3) X hW 30 0 Nat.zero_lt_one rfl (by omega) dX5_melt_96 ?_
                refine lv_aload_n hx hb dX5_melt_97 rfl (lv_at hl 2 rfl) ?_
                refine w_get X hW 13 0 Nat.zero_lt_one rfl rfl inG5 10 (by decide) g508 rfl dX5_melt_98 ?_
                refine lv_iload_n hx hb dX5_melt_101 rfl (lv_at hl 4 rfl) ?_
                refine w_ialdN (i := i5) X hW 30 0 Nat.zero_lt_one rfl (by omega) dX5_melt_102 ?_
                refine lv_icmp_ne (tgt := 129) hx hb dX5_melt_103 (by decide) (fun c_10 => ?_) (fun c_10 => ?_)
                · skip
                  refine lv_sipush (v := (-1003)) hx hb dX5_melt_129 (by decide) ?_
                  exact w_iret X hr hlk hS (by first | rfl | (simp [mcMelt, mMay, mMe, mMe1, mMe2, mMe3, mMeJ, mw, mwJ, c_1, hk3, c_4, hk5, c_7, c_8, c_9, c_10, ← hz25]; done) | (simp [mcMelt, mMay, mMe, mMe1, mMe2, mMe3, mMeJ, mw, mwJ, c_1, hk3, c_4, hk5, c_7, c_8, c_9, c_10, ← hz25]; rfl)) (hW.to (by first | rfl | (simp [mcMelt, mMay, mMe, mMe1, mMe2, mMe3, mMeJ, mw, mwJ, c_1, hk3, c_4, hk5, c_7, c_8, c_9, c_10, ← hz25]; done)) (by first | rfl | (simp [mcMelt, mMay, mMe, mMe1, mMe2, mMe3, mMeJ, mw, mwJ, c_1, hk3, c_4, hk5, c_7, c_8, c_9, c_10, ← hz25]; done))) dX5_melt_132
                · skip
                  refine lv_iload_n hx hb dX5_melt_106 rfl (lv_at hl 1 rfl) ?_
                  refine lv_iconst (v := 2) hx hb dX5_melt_107 (by decide) ?_
                  refine lv_icmp_ge (tgt := 133) hx hb dX5_melt_108 (by decide) (fun c_11 => ?_) (fun c_11 => ?_)
                  · skip
                    refine lv_aload_n hx hb dX5_melt_133 rfl (lv_at hl 2 rfl) ?_
                    refine w_get X hW 13 0 Nat.zero_lt_one rfl rfl inG5 9 (by decide) g507 rfl dX5_melt_134 ?_
                    refine lv_iload_n hx hb dX5_melt_137 rfl (lv_at hl 3 rfl) ?_
                    refine lv_dup2_11 hx hb dX5_melt_138 rfl rfl ?_
                    refine w_laldN (i := i3) X hW 29 0 Nat.zero_lt_one rfl (by omega) dX5_melt_139 ?_
                    refine lv_aload_n hx hb dX5_melt_140 rfl (lv_at hl 2 rfl) ?_
                    refine w_get X hW 13 0 Nat.zero_lt_one rfl rfl inG5 9 (by decide) g507 rfl dX5_melt_141 ?_
                    refine lv_iload_n hx hb dX5_melt_144 rfl (lv_at hl 4 rfl) ?_
                    refine w_laldN (i := i5) X hW 29 0 Nat.zero_lt_one rfl (by omega) dX5_melt_145 ?_
                    refine lv_lor hx hb dX5_melt_146 ?_
                    refine w_lastN (i := i3) X hW hS 29 0 Nat.zero_lt_one rfl (by omega) rfl dX5_melt_147 (fun H locs hW hS => ?_)
                    obtain ⟨J12, eJ12⟩ : ∃ z, z = k_up J 29 0 (vp_updL (J 29 0) i3 ((J 29 0 i3) ||| (J 29 0 i5))) := ⟨_, rfl⟩
                    rw [← eJ12] at hW
                    refine lv_aload_n hx hb dX5_melt_148 rfl (lv_at hl 2 rfl) ?_
                    refine w_get X hW 13 0 Nat.zero_lt_one rfl rfl inG5 12 (by decide) g510 rfl dX5_melt_149 ?_
                    refine lv_iload_n hx hb dX5_melt_152 rfl (lv_at hl 3 rfl) ?_
                    refine lv_dup2_11 hx hb dX5_melt_153 rfl rfl ?_
                    refine w_ialdN (i := i3) X hW 32 0 Nat.zero_lt_one rfl (by omega) dX5_melt_154 ?_
                    refine lv_aload_n hx hb dX5_melt_155 rfl (lv_at hl 2 rfl) ?_
                    refine w_get X hW 13 0 Nat.zero_lt_one rfl rfl inG5 12 (by decide) g510 rfl dX5_melt_156 ?_
                    refine lv_iload_n hx hb dX5_melt_159 rfl (lv_at hl 4 rfl) ?_
                    refine w_ialdN (i := i5) X hW 32 0 Nat.zero_lt_one rfl (by omega) dX5_melt_160 ?_
                    refine lv_ior hx hb dX5_melt_161 ?_
                    refine w_iastN (i := i3) X hW hS 32 0 Nat.zero_lt_one rfl (by omega) rfl dX5_melt_162 (fun H locs hW hS => ?_)
                    obtain ⟨I13, eI13⟩ : ∃ z, z = k_up I 32 0 (upd (I 32 0) i3 ((I 32 0 i3) ||| (I 32 0 i5))) := ⟨_, rfl⟩
                    rw [← eI13] at hW
                    have hs13 : m_S mA mK E I13 := by rw [eI13]; exact hs.up 32 _ _ (by decide)
                    refine lv_aload_n hx hb dX5_melt_163 rfl (lv_at hl 2 rfl) ?_
                    refine w_get X hW 13 0 Nat.zero_lt_one rfl rfl inG5 13 (by decide) g511 rfl dX5_melt_164 ?_
                    refine lv_iload_n hx hb dX5_melt_167 rfl (lv_at hl 3 rfl) ?_
                    refine lv_aload_n hx hb dX5_melt_168 rfl (lv_at hl 2 rfl) ?_
                    refine w_get X hW 13 0 Nat.zero_lt_one rfl rfl inG5 13 (by decide) g511 rfl dX5_melt_169 ?_
                    refine lv_iload_n hx hb dX5_melt_172 rfl (lv_at hl 4 rfl) ?_
                    refine w_ialdN (i := i5) X hW 33 0 Nat.zero_lt_one rfl (by omega) dX5_melt_173 ?_
                    refine lv_aload_n hx hb dX5_melt_174 rfl (lv_at hl 2 rfl) ?_
                    refine w_get X hW 13 0 Nat.zero_lt_one rfl rfl inG5 13 (by decide) g511 rfl dX5_melt_175 ?_
                    refine lv_iload_n hx hb dX5_melt_178 rfl (lv_at hl 3 rfl) ?_
                    refine w_ialdN (i := i3) X hW 33 0 Nat.zero_lt_one rfl (by omega) dX5_melt_179 ?_
                    refine lv_icmp_ge (tgt := 192) hx hb dX5_melt_180 (by decide) (fun c_14 => ?_) (fun c_14 => ?_)
                    · skip
                      refine lv_aload_n hx hb dX5_melt_192 rfl (lv_at hl 2 rfl) ?_
                      refine w_get X hW 13 0 Nat.zero_lt_one rfl rfl inG5 13 (by decide) g511 rfl dX5_melt_193 ?_
                      refine lv_iload_n hx hb dX5_melt_196 rfl (lv_at hl 3 rfl) ?_
                      refine w_ialdN (i := i3) X hW 33 0 Nat.zero_lt_one rfl (by omega) dX5_melt_197 ?_
                      refine w_iastN (i := i3) X hW hS 33 0 Nat.zero_lt_one rfl (by omega) rfl dX5_melt_198 (fun H locs hW hS => ?_)
                      obtain ⟨I15, eI15⟩ : ∃ z, z = k_up I13 33 0 (upd (I13 33 0) i3 (I13 33 0 i3)) := ⟨_, rfl⟩
                      rw [← eI15] at hW
                      have hs15 : m_S mA mK E I15 := by rw [eI15]; exact hs13.up 33 _ _ (by decide)
                      refine lv_aload_n hx hb dX5_melt_199 rfl (lv_at hl 2 rfl) ?_
                      refine w_get X hW 13 0 Nat.zero_lt_one rfl rfl inG5 14 (by decide) g512 rfl dX5_melt_200 ?_
                      refine lv_iload_n hx hb dX5_melt_203 rfl (lv_at hl 3 rfl) ?_
                      refine lv_dup2_11 hx hb dX5_melt_204 rfl rfl ?_
                      refine w_ialdN (i := i3) X hW 34 0 Nat.zero_lt_one rfl (by omega) dX5_melt_205 ?_
                      refine lv_aload_n hx hb dX5_melt_206 rfl (lv_at hl 2 rfl) ?_
                      refine w_get X hW 13 0 Nat.zero_lt_one rfl rfl inG5 14 (by decide) g512 rfl dX5_melt_207 ?_
                      refine lv_iload_n hx hb dX5_melt_210 rfl (lv_at hl 4 rfl) ?_
                      refine w_ialdN (i := i5) X hW 34 0 Nat.zero_lt_one rfl (by omega) dX5_melt_211 ?_
                      refine lv_iadd hx hb dX5_melt_212 ?_
                      refine w_iastN (i := i3) X hW hS 34 0 Nat.zero_lt_one rfl (by omega) rfl dX5_melt_213 (fun H locs hW hS => ?_)
                      obtain ⟨I16, eI16⟩ : ∃ z, z = k_up I15 34 0 (upd (I15 34 0) i3 ((I15 34 0 i3) + (I15 34 0 i5))) := ⟨_, rfl⟩
                      rw [← eI16] at hW
                      have hs16 : m_S mA mK E I16 := by rw [eI16]; exact hs15.up 34 _ _ (by decide)
                      refine lv_iconst (v := 0) hx hb dX5_melt_214 (by decide) ?_
                      refine lv_istore (lv' := [(4, .int 0), (3, .int n), (0, .ref (ad 13 0)), (1, .int (nI i3)), (2, .int (nI i5))]) hx hb dX5_melt_215 hl (by decide) rfl (fun ls hl => ?_)
                      have loop217 : ∀ (d k : Nat) (m1 : k_I), k + d = 3 → (kLoop (fun k I => mw 31 (3 * i3 + k) (I 31 0 (3 * i3 + k) ||| I 31 0 (3 * i5 + k)) I) d k m1 = mMe4 i3 i5 I16) → (m_S mA mK E m1) → ∀ (H : Heap) (locs : List Loc), Wd G ad nA nK m1 J12 H → va_S (k_A G) s.heap H locs → ∀ ls : Array Slot, lv_has ls 5 [(4, .int (nI k)), (0, .ref (ad 13 0)), (1, .int (nI i3)), (2, .int (nI i5))] → W p l e { frames := 2, cells := 0, slots := 0, locals := 46 } s m ([.ref (ad 13 0), .int (nI i3), .int (nI i5)] : List Value).toArray below meth c H locs 0 0 (MQ below (k_Q G (some (.int ((mcMelt mA (nI i3) (nI i5) (I, J)).1))) (Wd G ad nA nK ((mcMelt mA (nI i3) (nI i5) (I, J)).2.1) ((mcMelt mA (nI i3) (nI i5) (I, J)).2.2))) ([.ref (ad 13 0), .int (nI i3), .int (nI i5)] : List Value).toArray s 0 0 (k_A G)) (F0 m 217 ls []) := by
                        intro d
                        induction d with
                        | zero =>
                          intro k m1 hi217 hz217 hs_217 H locs hW hS ls hl
                          have eIm1 : m1 = mMe4 i3 i5 I16 := hz217
                          refine lv_iload hx hb dX5_melt_217 (lv_at hl 0 rfl) ?_
                          refine lv_iconst (v := 3) hx hb dX5_melt_219 (by decide) ?_
                          refine lv_icmp_ge (tgt := 254) hx hb dX5_melt_220 (by decide) (fun _ => ?_) (fun c_17 => absurd (nI_le (a := 3) (b := k) (by omega) (by omega)) c_17)
                          refine lv_aload_n hx hb dX5_melt_254 rfl (lv_at hl 1 rfl) ?_
                          refine w_get X hW 13 0 Nat.zero_lt_one rfl rfl inG5 8 (by decide) g506 rfl dX5_melt_255 ?_
                          refine lv_iload_n hx hb dX5_melt_258 rfl (lv_at hl 3 rfl) ?_
                          refine lv_iload_n hx hb dX5_melt_259 rfl (lv_at hl 2 rfl) ?_
                          refine w_iastN (i := i5) X hW hS 28 0 Nat.zero_lt_one rfl (by omega) rfl dX5_melt_260 (fun H locs hW hS => ?_)
                          obtain ⟨I18, eI18⟩ : ∃ z, z = k_up m1 28 0 (upd (m1 28 0) i5 (nI i3)) := ⟨_, rfl⟩
                          rw [← eI18] at hW
                          refine lv_iconst (v := 1) hx hb dX5_melt_261 (by decide) ?_
                          exact w_iret X hr hlk hS (by first | rfl | (simp [mcMelt, mMay, mMe, mMe1, mMe2, mMe3, mMeJ, mw, mwJ, c_1, hk3, c_4, hk5, c_7, c_8, c_9, c_10, c_11, c_14, ← hz25, eJ12, eI13, eI15, eI16, eIm1, eI18]; done) | (subst eI18 eIm1 eI16 eI15 eI13 eJ12; simp [mcMelt, mMay, mMe, mMe1, mMe2, mMe3, mMeJ, mw, mwJ, c_1, hk3, c_4, hk5, c_7, c_8, c_9, c_10, c_11, c_14, ← hz25]; done) | (simp [mcMelt, mMay, mMe, mMe1, mMe2, mMe3, mMeJ, mw, mwJ, c_1, hk3, c_4, hk5, c_7, c_8, c_9, c_10, c_11, c_14, ← hz25, eJ12, eI13, eI15, eI16, eIm1, eI18]; rfl)) (hW.to (by first | rfl | (subst eI18 eIm1 eI16 eI15 eI13 eJ12; simp [mcMelt, mMay, mMe, mMe1, mMe2, mMe3, mMeJ, mw, mwJ, c_1, hk3, c_4, hk5, c_7, c_8, c_9, c_10, c_11, c_14, ← hz25]; done) | (subst eI18 eIm1 eI16 eI15 eI13 eJ12; rfl) | (subst eI18 eIm1 eI16 eI15 eI13 eJ12; simp [mcMelt, mMay, mMe, mMe1, mMe2, mMe3, mMeJ, mw, mwJ, c_1, hk3, c_4, hk5, c_7, c_8, c_9, c_10, c_11, c_14, ← hz25]; done) | (subst eI18 eIm1 eI16 eI15 eI13 eJ12; simp [mcMelt, mMay, mMe, mMe1, mMe2, mMe3, mMeJ, mw, mwJ, c_1, hk3, c_4, hk5, c_7, c_8, c_9, c_10, c_11, c_14, ← hz25]; rfl) | (simp [mcMelt, mMay, mMe, mMe1, mMe2, mMe3, mMeJ, mw, mwJ, c_1, hk3, c_4, hk5, c_7, c_8, c_9, c_10, c_11, c_14, ← hz25, eJ12, eI13, eI15, eI16, eIm1, eI18]; done)) (by first | rfl | (subst eI18 eIm1 eI16 eI15 eI13 eJ12; simp [mcMelt, mMay, mMe, mMe1, mMe2, mMe3, mMeJ, mw, mwJ, c_1, hk3, c_4, hk5, c_7, c_8, c_9, c_10, c_11, c_14, ← hz25]; done) | (subst eI18 eIm1 eI16 eI15 eI13 eJ12; rfl) | (subst eI18 eIm1 eI16 eI15 eI13 eJ12; simp [mcMelt, mMay, mMe, mMe1, mMe2, mMe3, mMeJ, mw, mwJ, c_1, hk3, c_4, hk5, c_7, c_8, c_9, c_10, c_11, c_14, ← hz25]; done) | (subst eI18 eIm1 eI16 eI15 eI13 eJ12; simp [mcMelt, mMay, mMe, mMe1, mMe2, mMe3, mMeJ, mw, mwJ, c_1, hk3, c_4, hk5, c_7, c_8, c_9, c_10, c_11, c_14, ← hz25]; rfl) | (simp [mcMelt, mMay, mMe, mMe1, mMe2, mMe3, mMeJ, mw, mwJ, c_1, hk3, c_4, hk5, c_7, c_8, c_9, c_10, c_11, c_14, ← hz25, eJ12, eI13, eI15, eI16, eIm1, eI18]; done))) dX5_melt_262
                        | succ d ih =>
                          intro k m1 hi217 hz217 hs_217 H locs hW hS ls hl
                          have hlt217 : k < 3 := by omega
                          have ih217 := ih
                          refine lv_iload hx hb dX5_melt_217 (lv_at hl 0 rfl) ?_
                          refine lv_iconst (v := 3) hx hb dX5_melt_219 (by decide) ?_
                          refine lv_icmp_ge (tgt := 254) hx hb dX5_melt_220 (by decide) (fun c_19 => absurd c_19 (nI_ge (a := k) (b := 3) (by omega) (by omega))) (fun _ => ?_)
                          refine lv_aload_n hx hb dX5_melt_223 rfl (lv_at hl 1 rfl) ?_
                          refine w_get X hW 13 0 Nat.zero_lt_one rfl rfl inG5 11 (by decide) g509 rfl dX5_melt_224 ?_
                          refine lv_iconst (v := 3) hx hb dX5_melt_227 (by decide) ?_
                          refine lv_iload_n hx hb dX5_melt_228 rfl (lv_at hl 2 rfl) ?_
                          refine lw_imulN (a := 3) (b := i3) hx hb dX5_melt_229 ?_
                          refine lv_iload hx hb dX5_melt_230 (lv_at hl 0 rfl) ?_
                          refine lw_iaddN (a := 3 * i3) (b := k) hx hb dX5_melt_232 ?_
                          refine lv_dup2_11 hx hb dX5_melt_233 rfl rfl ?_
                          refine w_ialdN (i := 3 * i3 + k) X hW 31 0 Nat.zero_lt_one rfl (by omega) dX5_melt_234 ?_
                          refine lv_aload_n hx hb dX5_melt_235 rfl (lv_at hl 1 rfl) ?_
                          refine w_get X hW 13 0 Nat.zero_lt_one rfl rfl inG5 11 (by decide) g509 rfl dX5_melt_236 ?_
                          refine lv_iconst (v := 3) hx hb dX5_melt_239 (by decide) ?_
                          refine lv_iload_n hx hb dX5_melt_240 rfl (lv_at hl 3 rfl) ?_
                          refine lw_imulN (a := 3) (b := i5) hx hb dX5_melt_241 ?_
                          refine lv_iload hx hb dX5_melt_242 (lv_at hl 0 rfl) ?_
                          refine lw_iaddN (a := 3 * i5) (b := k) hx hb dX5_melt_244 ?_
                          refine w_ialdN (i := 3 * i5 + k) X hW 31 0 Nat.zero_lt_one rfl (by omega) dX5_melt_245 ?_
                          refine lv_ior hx hb dX5_melt_246 ?_
                          refine w_iastN (i := 3 * i3 + k) X hW hS 31 0 Nat.zero_lt_one rfl (by omega) rfl dX5_melt_247 (fun H locs hW hS => ?_)
                          obtain ⟨I20, eI20⟩ : ∃ z, z = k_up m1 31 0 (upd (m1 31 0) (3 * i3 + k) ((m1 31 0 (3 * i3 + k)) ||| (m1 31 0 (3 * i5 + k)))) := ⟨_, rfl⟩
                          rw [← eI20] at hW
                          have hs20 : m_S mA mK E I20 := by rw [eI20]; exact hs_217.up 31 _ _ (by decide)
                          refine lv_iinc (v := nI (k + 1)) (lv' := [(4, .int (nI (k + 1))), (0, .ref (ad 13 0)), (1, .int (nI i3)), (2, .int (nI i5))]) hx hb dX5_melt_248 hl (k := 0) rfl (nI_1 k) (by decide) rfl (fun ls hl => ?_)
                          refine lv_goto (tgt := 217) hx hb dX5_melt_251 (by decide) ?_
                          exact ih217 (k + 1) I20 (by omega) (by subst eI20; first | exact hz217 | (rw [← hz217]; simp [kLoop, mw, c_1, hk3, c_4, hk5, c_7, c_8, c_9, c_10, c_11, c_14, ← hz25]; done) | (rw [← hz217]; simp [kLoop, mw, c_1, hk3, c_4, hk5, c_7, c_8, c_9, c_10, c_11, c_14, ← hz25]; rfl)) hs20 _ _ hW hS ls (lv_sub hl [0, 1, 2, 3] rfl)
                      exact loop217 3 0 I16 (by omega) rfl hs16 _ _ hW hS ls (lv_sub hl [0, 2, 3, 4] rfl)
                    · skip
                      refine lv_aload_n hx hb dX5_melt_183 rfl (lv_at hl 2 rfl) ?_
                      refine w_get X hW 13 0 Nat.zero_lt_one rfl rfl inG5 13 (by decide) g511 rfl dX5_melt_184 ?_
                      refine lv_iload_n hx hb dX5_melt_187 rfl (lv_at hl 4 rfl) ?_
                      refine w_ialdN (i := i5) X hW 33 0 Nat.zero_lt_one rfl (by omega) dX5_melt_188 ?_
                      refine lv_goto (tgt := 198) hx hb dX5_melt_189 (by decide) ?_
                      refine w_iastN (i := i3) X hW hS 33 0 Nat.zero_lt_one rfl (by omega) rfl dX5_melt_198 (fun H locs hW hS => ?_)
                      obtain ⟨I21, eI21⟩ : ∃ z, z = k_up I13 33 0 (upd (I13 33 0) i3 (I13 33 0 i5)) := ⟨_, rfl⟩
                      rw [← eI21] at hW
                      have hs21 : m_S mA mK E I21 := by rw [eI21]; exact hs13.up 33 _ _ (by decide)
                      refine lv_aload_n hx hb dX5_melt_199 rfl (lv_at hl 2 rfl) ?_
                      refine w_get X hW 13 0 Nat.zero_lt_one rfl rfl inG5 14 (by decide) g512 rfl dX5_melt_200 ?_
                      refine lv_iload_n hx hb dX5_melt_203 rfl (lv_at hl 3 rfl) ?_
                      refine lv_dup2_11 hx hb dX5_melt_204 rfl rfl ?_
                      refine w_ialdN (i := i3) X hW 34 0 Nat.zero_lt_one rfl (by omega) dX5_melt_205 ?_
                      refine lv_aload_n hx hb dX5_melt_206 rfl (lv_at hl 2 rfl) ?_
                      refine w_get X hW 13 0 Nat.zero_lt_one rfl rfl inG5 14 (by decide) g512 rfl dX5_melt_207 ?_
                      refine lv_iload_n hx hb dX5_melt_210 rfl (lv_at hl 4 rfl) ?_
                      refine w_ialdN (i := i5) X hW 34 0 Nat.zero_lt_one rfl (by omega) dX5_melt_211 ?_
                      refine lv_iadd hx hb dX5_melt_212 ?_
                      refine w_iastN (i := i3) X hW hS 34 0 Nat.zero_lt_one rfl (by omega) rfl dX5_melt_213 (fun H locs hW hS => ?_)
                      obtain ⟨I22, eI22⟩ : ∃ z, z = k_up I21 34 0 (upd (I21 34 0) i3 ((I21 34 0 i3) + (I21 34 0 i5))) := ⟨_, rfl⟩
                      rw [← eI22] at hW
                      have hs22 : m_S mA mK E I22 := by rw [eI22]; exact hs21.up 34 _ _ (by decide)
                      refine lv_iconst (v := 0) hx hb dX5_melt_214 (by decide) ?_
                      refine lv_istore (lv' := [(4, .int 0), (3, .int n), (0, .ref (ad 13 0)), (1, .int (nI i3)), (2, .int (nI i5))]) hx hb dX5_melt_215 hl (by decide) rfl (fun ls hl => ?_)
                      have loop217 : ∀ (d k : Nat) (m1 : k_I), k + d = 3 → (kLoop (fun k I => mw 31 (3 * i3 + k) (I 31 0 (3 * i3 + k) ||| I 31 0 (3 * i5 + k)) I) d k m1 = mMe4 i3 i5 I22) → (m_S mA mK E m1) → ∀ (H : Heap) (locs : List Loc), Wd G ad nA nK m1 J12 H → va_S (k_A G) s.heap H locs → ∀ ls : Array Slot, lv_has ls 5 [(4, .int (nI k)), (0, .ref (ad 13 0)), (1, .int (nI i3)), (2, .int (nI i5))] → W p l e { frames := 2, cells := 0, slots := 0, locals := 46 } s m ([.ref (ad 13 0), .int (nI i3), .int (nI i5)] : List Value).toArray below meth c H locs 0 0 (MQ below (k_Q G (some (.int ((mcMelt mA (nI i3) (nI i5) (I, J)).1))) (Wd G ad nA nK ((mcMelt mA (nI i3) (nI i5) (I, J)).2.1) ((mcMelt mA (nI i3) (nI i5) (I, J)).2.2))) ([.ref (ad 13 0), .int (nI i3), .int (nI i5)] : List Value).toArray s 0 0 (k_A G)) (F0 m 217 ls []) := by
                        intro d
                        induction d with
                        | zero =>
                          intro k m1 hi217 hz217 hs_217 H locs hW hS ls hl
                          have eIm1 : m1 = mMe4 i3 i5 I22 := hz217
                          refine lv_iload hx hb dX5_melt_217 (lv_at hl 0 rfl) ?_
                          refine lv_iconst (v := 3) hx hb dX5_melt_219 (by decide) ?_
                          refine lv_icmp_ge (tgt := 254) hx hb dX5_melt_220 (by decide) (fun _ => ?_) (fun c_23 => absurd (nI_le (a := 3) (b := k) (by omega) (by omega)) c_23)
                          refine lv_aload_n hx hb dX5_melt_254 rfl (lv_at hl 1 rfl) ?_
                          refine w_get X hW 13 0 Nat.zero_lt_one rfl rfl inG5 8 (by decide) g506 rfl dX5_melt_255 ?_
                          refine lv_iload_n hx hb dX5_melt_258 rfl (lv_at hl 3 rfl) ?_
                          refine lv_iload_n hx hb dX5_melt_259 rfl (lv_at hl 2 rfl) ?_
                          refine w_iastN (i := i5) X hW hS 28 0 Nat.zero_lt_one rfl (by omega) rfl dX5_melt_260 (fun H locs hW hS => ?_)
                          obtain ⟨I24, eI24⟩ : ∃ z, z = k_up m1 28 0 (upd (m1 28 0) i5 (nI i3)) := ⟨_, rfl⟩
                          rw [← eI24] at hW
                          refine lv_iconst (v := 1) hx hb dX5_melt_261 (by decide) ?_
                          exact w_iret X hr hlk hS (by first | rfl | (simp [mcMelt, mMay, mMe, mMe1, mMe2, mMe3, mMeJ, mw, mwJ, c_1, hk3, c_4, hk5, c_7, c_8, c_9, c_10, c_11, c_14, ← hz25, eJ12, eI13, eI21, eI22, eIm1, eI24]; done) | (subst eI24 eIm1 eI22 eI21 eI13 eJ12; simp [mcMelt, mMay, mMe, mMe1, mMe2, mMe3, mMeJ, mw, mwJ, c_1, hk3, c_4, hk5, c_7, c_8, c_9, c_10, c_11, c_14, ← hz25]; done) | (simp [mcMelt, mMay, mMe, mMe1, mMe2, mMe3, mMeJ, mw, mwJ, c_1, hk3, c_4, hk5, c_7, c_8, c_9, c_10, c_11, c_14, ← hz25, eJ12, eI13, eI21, eI22, eIm1, eI24]; rfl)) (hW.to (by first | rfl | (subst eI24 eIm1 eI22 eI21 eI13 eJ12; simp [mcMelt, mMay, mMe, mMe1, mMe2, mMe3, mMeJ, mw, mwJ, c_1, hk3, c_4, hk5, c_7, c_8, c_9, c_10, c_11, c_14, ← hz25]; done) | (subst eI24 eIm1 eI22 eI21 eI13 eJ12; rfl) | (subst eI24 eIm1 eI22 eI21 eI13 eJ12; simp [mcMelt, mMay, mMe, mMe1, mMe2, mMe3, mMeJ, mw, mwJ, c_1, hk3, c_4, hk5, c_7, c_8, c_9, c_10, c_11, c_14, ← hz25]; done) | (subst eI24 eIm1 eI22 eI21 eI13 eJ12; simp [mcMelt, mMay, mMe, mMe1, mMe2, mMe3, mMeJ, mw, mwJ, c_1, hk3, c_4, hk5, c_7, c_8, c_9, c_10, c_11, c_14, ← hz25]; rfl) | (simp [mcMelt, mMay, mMe, mMe1, mMe2, mMe3, mMeJ, mw, mwJ, c_1, hk3, c_4, hk5, c_7, c_8, c_9, c_10, c_11, c_14, ← hz25, eJ12, eI13, eI21, eI22, eIm1, eI24]; done)) (by first | rfl | (subst eI24 eIm1 eI22 eI21 eI13 eJ12; simp [mcMelt, mMay, mMe, mMe1, mMe2, mMe3, mMeJ, mw, mwJ, c_1, hk3, c_4, hk5, c_7, c_8, c_9, c_10, c_11, c_14, ← hz25]; done) | (subst eI24 eIm1 eI22 eI21 eI13 eJ12; rfl) | (subst eI24 eIm1 eI22 eI21 eI13 eJ12; simp [mcMelt, mMay, mMe, mMe1, mMe2, mMe3, mMeJ, mw, mwJ, c_1, hk3, c_4, hk5, c_7, c_8, c_9, c_10, c_11, c_14, ← hz25]; done) | (subst eI24 eIm1 eI22 eI21 eI13 eJ12; simp [mcMelt, mMay, mMe, mMe1, mMe2, mMe3, mMeJ, mw, mwJ, c_1, hk3, c_4, hk5, c_7, c_8, c_9, c_10, c_11, c_14, ← hz25]; rfl) | (simp [mcMelt, mMay, mMe, mMe1, mMe2, mMe3, mMeJ, mw, mwJ, c_1, hk3, c_4, hk5, c_7, c_8, c_9, c_10, c_11, c_14, ← hz25, eJ12, eI13, eI21, eI22, eIm1, eI24]; done))) dX5_melt_262
                        | succ d ih =>
                          intro k m1 hi217 hz217 hs_217 H locs hW hS ls hl
                          have hlt217 : k < 3 := by omega
                          have ih217 := ih
                          refine lv_iload hx hb dX5_melt_217 (lv_at hl 0 rfl) ?_
                          refine lv_iconst (v := 3) hx hb dX5_melt_219 (by decide) ?_
                          refine lv_icmp_ge (tgt := 254) hx hb dX5_melt_220 (by decide) (fun c_25 => absurd c_25 (nI_ge (a := k) (b := 3) (by omega) (by omega))) (fun _ => ?_)
                          refine lv_aload_n hx hb dX5_melt_223 rfl (lv_at hl 1 rfl) ?_
                          refine w_get X hW 13 0 Nat.zero_lt_one rfl rfl inG5 11 (by decide) g509 rfl dX5_melt_224 ?_
                          refine lv_iconst (v := 3) hx hb dX5_melt_227 (by decide) ?_
                          refine lv_iload_n hx hb dX5_melt_228 rfl (lv_at hl 2 rfl) ?_
                          refine lw_imulN (a := 3) (b := i3) hx hb dX5_melt_229 ?_
                          refine lv_iload hx hb dX5_melt_230 (lv_at hl 0 rfl) ?_
                          refine lw_iaddN (a := 3 * i3) (b := k) hx hb dX5_melt_232 ?_
                          refine lv_dup2_11 hx hb dX5_melt_233 rfl rfl ?_
                          refine w_ialdN (i := 3 * i3 + k) X hW 31 0 Nat.zero_lt_one rfl (by omega) dX5_melt_234 ?_
                          refine lv_aload_n hx hb dX5_melt_235 rfl (lv_at hl 1 rfl) ?_
                          refine w_get X hW 13 0 Nat.zero_lt_one rfl rfl inG5 11 (by decide) g509 rfl dX5_melt_236 ?_
                          refine lv_iconst (v := 3) hx hb dX5_melt_239 (by decide) ?_
                          refine lv_iload_n hx hb dX5_melt_240 rfl (lv_at hl 3 rfl) ?_
                          refine lw_imulN (a := 3) (b := i5) hx hb dX5_melt_241 ?_
                          refine lv_iload hx hb dX5_melt_242 (lv_at hl 0 rfl) ?_
                          refine lw_iaddN (a := 3 * i5) (b := k) hx hb dX5_melt_244 ?_
                          refine w_ialdN (i := 3 * i5 + k) X hW 31 0 Nat.zero_lt_one rfl (by omega) dX5_melt_245 ?_
                          refine lv_ior hx hb dX5_melt_246 ?_
                          refine w_iastN (i := 3 * i3 + k) X hW hS 31 0 Nat.zero_lt_one rfl (by omega) rfl dX5_melt_247 (fun H locs hW hS => ?_)
                          obtain ⟨I26, eI26⟩ : ∃ z, z = k_up m1 31 0 (upd (m1 31 0) (3 * i3 + k) ((m1 31 0 (3 * i3 + k)) ||| (m1 31 0 (3 * i5 + k)))) := ⟨_, rfl⟩
                          rw [← eI26] at hW
                          have hs26 : m_S mA mK E I26 := by rw [eI26]; exact hs_217.up 31 _ _ (by decide)
                          refine lv_iinc (v := nI (k + 1)) (lv' := [(4, .int (nI (k + 1))), (0, .ref (ad 13 0)), (1, .int (nI i3)), (2, .int (nI i5))]) hx hb dX5_melt_248 hl (k := 0) rfl (nI_1 k) (by decide) rfl (fun ls hl => ?_)
                          refine lv_goto (tgt := 217) hx hb dX5_melt_251 (by decide) ?_
                          exact ih217 (k + 1) I26 (by omega) (by subst eI26; first | exact hz217 | (rw [← hz217]; simp [kLoop, mw, c_1, hk3, c_4, hk5, c_7, c_8, c_9, c_10, c_11, c_14, ← hz25]; done) | (rw [← hz217]; simp [kLoop, mw, c_1, hk3, c_4, hk5, c_7, c_8, c_9, c_10, c_11, c_14, ← hz25]; rfl)) hs26 _ _ hW hS ls (lv_sub hl [0, 1, 2, 3] rfl)
                      exact loop217 3 0 I22 (by omega) rfl hs22 _ _ hW hS ls (lv_sub hl [0, 2, 3, 4] rfl)
                  · skip
                    refine lv_aload_n hx hb dX5_melt_111 rfl (lv_at hl 2 rfl) ?_
                    refine lv_iload_n hx hb dX5_melt_112 rfl (lv_at hl 3 rfl) ?_
                    refine lv_iload_n hx hb dX5_melt_113 rfl (lv_at hl 4 rfl) ?_
                    refine w_cV1 X hS (m_X5_isWithin l G ad nA nK mA mK E I J i3 i5 (by first | assumption | omega) (by first | assumption | omega)) rfl rfl g662 g4 g659 g661 p37 hd_X5_isWithin ⟨Nat.le_of_ble_eq_true rfl, Nat.le_of_ble_eq_true rfl⟩ (k_rec X hW 13 0 Nat.zero_lt_one rfl rfl) hW hl.1 rfl (Nat.le_of_ble_eq_true rfl) dX5_melt_114 (Nat.zero_le _) (Nat.zero_le _) (fun H locs hW hS => ?_)
                    refine lb_if_ne (tgt := 133) hx hb dX5_melt_117 (by decide) (fun c_27 => ?_) (fun c_27 => ?_)
                    · skip
                      refine lv_aload_n hx hb dX5_melt_133 rfl (lv_at hl 2 rfl) ?_
                      refine w_get X hW 13 0 Nat.zero_lt_one rfl rfl inG5 9 (by decide) g507 rfl dX5_melt_134 ?_
                      refine lv_iload_n hx hb dX5_melt_137 rfl (lv_at hl 3 rfl) ?_
                      refine lv_dup2_11 hx hb dX5_melt_138 rfl rfl ?_
                      refine w_laldN (i := i3) X hW 29 0 Nat.zero_lt_one rfl (by omega) dX5_melt_139 ?_
                      refine lv_aload_n hx hb dX5_melt_140 rfl (lv_at hl 2 rfl) ?_
                      refine w_get X hW 13 0 Nat.zero_lt_one rfl rfl inG5 9 (by decide) g507 rfl dX5_melt_141 ?_
                      refine lv_iload_n hx hb dX5_melt_144 rfl (lv_at hl 4 rfl) ?_
                      refine w_laldN (i := i5) X hW 29 0 Nat.zero_lt_one rfl (by omega) dX5_melt_145 ?_
                      refine lv_lor hx hb dX5_melt_146 ?_
                      refine w_lastN (i := i3) X hW hS 29 0 Nat.zero_lt_one rfl (by omega) rfl dX5_melt_147 (fun H locs hW hS => ?_)
                      obtain ⟨J28, eJ28⟩ : ∃ z, z = k_up J 29 0 (vp_updL (J 29 0) i3 ((J 29 0 i3) ||| (J 29 0 i5))) := ⟨_, rfl⟩
                      rw [← eJ28] at hW
                      refine lv_aload_n hx hb dX5_melt_148 rfl (lv_at hl 2 rfl) ?_
                      refine w_get X hW 13 0 Nat.zero_lt_one rfl rfl inG5 12 (by decide) g510 rfl dX5_melt_149 ?_
                      refine lv_iload_n hx hb dX5_melt_152 rfl (lv_at hl 3 rfl) ?_
                      refine lv_dup2_11 hx hb dX5_melt_153 rfl rfl ?_
                      refine w_ialdN (i := i3) X hW 32 0 Nat.zero_lt_one rfl (by omega) dX5_melt_154 ?_
                      refine lv_aload_n hx hb dX5_melt_155 rfl (lv_at hl 2 rfl) ?_
                      refine w_get X hW 13 0 Nat.zero_lt_one rfl rfl inG5 12 (by decide) g510 rfl dX5_melt_156 ?_
                      refine lv_iload_n hx hb dX5_melt_159 rfl (lv_at hl 4 rfl) ?_
                      refine w_ialdN (i := i5) X hW 32 0 Nat.zero_lt_one rfl (by omega) dX5_melt_160 ?_
                      refine lv_ior hx hb dX5_melt_161 ?_
                      refine w_iastN (i := i3) X hW hS 32 0 Nat.zero_lt_one rfl (by omega) rfl dX5_melt_162 (fun H locs hW hS => ?_)
                      obtain ⟨I29, eI29⟩ : ∃ z, z = k_up I 32 0 (upd (I 32 0) i3 ((I 32 0 i3) ||| (I 32 0 i5))) := ⟨_, rfl⟩
                      rw [← eI29] at hW
                      have hs29 : m_S mA mK E I29 := by rw [eI29]; exact hs.up 32 _ _ (by decide)
                      refine lv_aload_n hx hb dX5_melt_163 rfl (lv_at hl 2 rfl) ?_
                      refine w_get X hW 13 0 Nat.zero_lt_one rfl rfl inG5 13 (by decide) g511 rfl dX5_melt_164 ?_
                      refine lv_iload_n hx hb dX5_melt_167 rfl (lv_at hl 3 rfl) ?_
                      refine lv_aload_n hx hb dX5_melt_168 rfl (lv_at hl 2 rfl) ?_
                      refine w_get X hW 13 0 Nat.zero_lt_one rfl rfl inG5 13 (by decide) g511 rfl dX5_melt_169 ?_
                      refine lv_iload_n hx hb dX5_melt_172 rfl (lv_at hl 4 rfl) ?_
                      refine w_ialdN (i := i5) X hW 33 0 Nat.zero_lt_one rfl (by omega) dX5_melt_173 ?_
                      refine lv_aload_n hx hb dX5_melt_174 rfl (lv_at hl 2 rfl) ?_
                      refine w_get X hW 13 0 Nat.zero_lt_one rfl rfl inG5 13 (by decide) g511 rfl dX5_melt_175 ?_
                      refine lv_iload_n hx hb dX5_melt_178 rfl (lv_at hl 3 rfl) ?_
                      refine w_ialdN (i := i3) X hW 33 0 Nat.zero_lt_one rfl (by omega) dX5_melt_179 ?_
                      refine lv_icmp_ge (tgt := 192) hx hb dX5_melt_180 (by decide) (fun c_30 => ?_) (fun c_30 => ?_)
                      · skip
                        refine lv_aload_n hx hb dX5_melt_192 rfl (lv_at hl 2 rfl) ?_
                        refine w_get X hW 13 0 Nat.zero_lt_one rfl rfl inG5 13 (by decide) g511 rfl dX5_melt_193 ?_
                        refine lv_iload_n hx hb dX5_melt_196 rfl (lv_at hl 3 rfl) ?_
                        refine w_ialdN (i := i3) X hW 33 0 Nat.zero_lt_one rfl (by omega) dX5_melt_197 ?_
                        refine w_iastN (i := i3) X hW hS 33 0 Nat.zero_lt_one rfl (by omega) rfl dX5_melt_198 (fun H locs hW hS => ?_)
                        obtain ⟨I31, eI31⟩ : ∃ z, z = k_up I29 33 0 (upd (I29 33 0) i3 (I29 33 0 i3)) := ⟨_, rfl⟩
                        rw [← eI31] at hW
                        have hs31 : m_S mA mK E I31 := by rw [eI31]; exact hs29.up 33 _ _ (by decide)
                        refine lv_aload_n hx hb dX5_melt_199 rfl (lv_at hl 2 rfl) ?_
                        refine w_get X hW 13 0 Nat.zero_lt_one rfl rfl inG5 14 (by decide) g512 rfl dX5_melt_200 ?_
                        refine lv_iload_n hx hb dX5_melt_203 rfl (lv_at hl 3 rfl) ?_
                        refine lv_dup2_11 hx hb dX5_melt_204 rfl rfl ?_
                        refine w_ialdN (i := i3) X hW 34 0 Nat.zero_lt_one rfl (by omega) dX5_melt_205 ?_
                        refine lv_aload_n hx hb dX5_melt_206 rfl (lv_at hl 2 rfl) ?_
                        refine w_get X hW 13 0 Nat.zero_lt_one rfl rfl inG5 14 (by decide) g512 rfl dX5_melt_207 ?_
                        refine lv_iload_n hx hb dX5_melt_210 rfl (lv_at hl 4 rfl) ?_
                        refine w_ialdN (i := i5) X hW 34 0 Nat.zero_lt_one rfl (by omega) dX5_melt_211 ?_
                        refine lv_iadd hx hb dX5_melt_212 ?_
                        refine w_iastN (i := i3) X hW hS 34 0 Nat.zero_lt_one rfl (by omega) rfl dX5_melt_213 (fun H locs hW hS => ?_)
                        obtain ⟨I32, eI32⟩ : ∃ z, z = k_up I31 34 0 (upd (I31 34 0) i3 ((I31 34 0 i3) + (I31 34 0 i5))) := ⟨_, rfl⟩
                        rw [← eI32] at hW
                        have hs32 : m_S mA mK E I32 := by rw [eI32]; exact hs31.up 34 _ _ (by decide)
                        refine lv_iconst (v := 0) hx hb dX5_melt_214 (by decide) ?_
                        refine lv_istore (lv' := [(4, .int 0), (3, .int n), (0, .ref (ad 13 0)), (1, .int (nI i3)), (2, .int (nI i5))]) hx hb dX5_melt_215 hl (by decide) rfl (fun ls hl => ?_)
                        have loop217 : ∀ (d k : Nat) (m1 : k_I), k + d = 3 → (kLoop (fun k I => mw 31 (3 * i3 + k) (I 31 0 (3 * i3 + k) ||| I 31 0 (3 * i5 + k)) I) d k m1 = mMe4 i3 i5 I32) → (m_S mA mK E m1) → ∀ (H : Heap) (locs : List Loc), Wd G ad nA nK m1 J28 H → va_S (k_A G) s.heap H locs → ∀ ls : Array Slot, lv_has ls 5 [(4, .int (nI k)), (0, .ref (ad 13 0)), (1, .int (nI i3)), (2, .int (nI i5))] → W p l e { frames := 2, cells := 0, slots := 0, locals := 46 } s m ([.ref (ad 13 0), .int (nI i3), .int (nI i5)] : List Value).toArray below meth c H locs 0 0 (MQ below (k_Q G (some (.int ((mcMelt mA (nI i3) (nI i5) (I, J)).1))) (Wd G ad nA nK ((mcMelt mA (nI i3) (nI i5) (I, J)).2.1) ((mcMelt mA (nI i3) (nI i5) (I, J)).2.2))) ([.ref (ad 13 0), .int (nI i3), .int (nI i5)] : List Value).toArray s 0 0 (k_A G)) (F0 m 217 ls []) := by
                          intro d
                          induction d with
                          | zero =>
                            intro k m1 hi217 hz217 hs_217 H locs hW hS ls hl
                            have eIm1 : m1 = mMe4 i3 i5 I32 := hz217
                            refine lv_iload hx hb dX5_melt_217 (lv_at hl 0 rfl) ?_
                            refine lv_iconst (v := 3) hx hb dX5_melt_219 (by decide) ?_
                            refine lv_icmp_ge (tgt := 254) hx hb dX5_melt_220 (by decide) (fun _ => ?_) (fun c_33 => absurd (nI_le (a := 3) (b := k) (by omega) (by omega)) c_33)
                            refine lv_aload_n hx hb dX5_melt_254 rfl (lv_at hl 1 rfl) ?_
                            refine w_get X hW 13 0 Nat.zero_lt_one rfl rfl inG5 8 (by decide) g506 rfl dX5_melt_255 ?_
                            refine lv_iload_n hx hb dX5_melt_258 rfl (lv_at hl 3 rfl) ?_
                            refine lv_iload_n hx hb dX5_melt_259 rfl (lv_at hl 2 rfl) ?_
                            refine w_iastN (i := i5) X hW hS 28 0 Nat.zero_lt_one rfl (by omega) rfl dX5_melt_260 (fun H locs hW hS => ?_)
                            obtain ⟨I34, eI34⟩ : ∃ z, z = k_up m1 28 0 (upd (m1 28 0) i5 (nI i3)) := ⟨_, rfl⟩
                            rw [← eI34] at hW
                            refine lv_iconst (v := 1) hx hb dX5_melt_261 (by decide) ?_
                            exact w_iret X hr hlk hS (by first | rfl | (simp [mcMelt, mMay, mMe, mMe1, mMe2, mMe3, mMeJ, mw, mwJ, c_1, hk3, c_4, hk5, c_7, c_8, c_9, c_10, c_11, c_27, c_30, ← hz25, eJ28, eI29, eI31, eI32, eIm1, eI34]; done) | (subst eI34 eIm1 eI32 eI31 eI29 eJ28; simp [mcMelt, mMay, mMe, mMe1, mMe2, mMe3, mMeJ, mw, mwJ, c_1, hk3, c_4, hk5, c_7, c_8, c_9, c_10, c_11, c_27, c_30, ← hz25]; done) | (simp [mcMelt, mMay, mMe, mMe1, mMe2, mMe3, mMeJ, mw, mwJ, c_1, hk3, c_4, hk5, c_7, c_8, c_9, c_10, c_11, c_27, c_30, ← hz25, eJ28, eI29, eI31, eI32, eIm1, eI34]; rfl)) (hW.to (by first | rfl | (subst eI34 eIm1 eI32 eI31 eI29 eJ28; simp [mcMelt, mMay, mMe, mMe1, mMe2, mMe3, mMeJ, mw, mwJ, c_1, hk3, c_4, hk5, c_7, c_8, c_9, c_10, c_11, c_27, c_30, ← hz25]; done) | (subst eI34 eIm1 eI32 eI31 eI29 eJ28; rfl) | (subst eI34 eIm1 eI32 eI31 eI29 eJ28; simp [mcMelt, mMay, mMe, mMe1, mMe2, mMe3, mMeJ, mw, mwJ, c_1, hk3, c_4, hk5, c_7, c_8, c_9, c_10, c_11, c_27, c_30, ← hz25]; done) | (subst eI34 eIm1 eI32 eI31 eI29 eJ28; simp [mcMelt, mMay, mMe, mMe1, mMe2, mMe3, mMeJ, mw, mwJ, c_1, hk3, c_4, hk5, c_7, c_8, c_9, c_10, c_11, c_27, c_30, ← hz25]; rfl) | (simp [mcMelt, mMay, mMe, mMe1, mMe2, mMe3, mMeJ, mw, mwJ, c_1, hk3, c_4, hk5, c_7, c_8, c_9, c_10, c_11, c_27, c_30, ← hz25, eJ28, eI29, eI31, eI32, eIm1, eI34]; done)) (by first | rfl | (subst eI34 eIm1 eI32 eI31 eI29 eJ28; simp [mcMelt, mMay, mMe, mMe1, mMe2, mMe3, mMeJ, mw, mwJ, c_1, hk3, c_4, hk5, c_7, c_8, c_9, c_10, c_11, c_27, c_30, ← hz25]; done) | (subst eI34 eIm1 eI32 eI31 eI29 eJ28; rfl) | (subst eI34 eIm1 eI32 eI31 eI29 eJ28; simp [mcMelt, mMay, mMe, mMe1, mMe2, mMe3, mMeJ, mw, mwJ, c_1, hk3, c_4, hk5, c_7, c_8, c_9, c_10, c_11, c_27, c_30, ← hz25]; done) | (subst eI34 eIm1 eI32 eI31 eI29 eJ28; simp [mcMelt, mMay, mMe, mMe1, mMe2, mMe3, mMeJ, mw, mwJ, c_1, hk3, c_4, hk5, c_7, c_8, c_9, c_10, c_11, c_27, c_30, ← hz25]; rfl) | (simp [mcMelt, mMay, mMe, mMe1, mMe2, mMe3, mMeJ, mw, mwJ, c_1, hk3, c_4, hk5, c_7, c_8, c_9, c_10, c_11, c_27, c_30, ← hz25, eJ28, eI29, eI31, eI32, eIm1, eI34]; done))) dX5_melt_262
                          | succ d ih =>
                            intro k m1 hi217 hz217 hs_217 H locs hW hS ls hl
                            have hlt217 : k < 3 := by omega
                            have ih217 := ih
                            refine lv_iload hx hb dX5_melt_217 (lv_at hl 0 rfl) ?_
                            refine lv_iconst (v := 3) hx hb dX5_melt_219 (by decide) ?_
                            refine lv_icmp_ge (tgt := 254) hx hb dX5_melt_220 (by decide) (fun c_35 => absurd c_35 (nI_ge (a := k) (b := 3) (by omega) (by omega))) (fun _ => ?_)
                            refine lv_aload_n hx hb dX5_melt_223 rfl (lv_at hl 1 rfl) ?_
                            refine w_get X hW 13 0 Nat.zero_lt_one rfl rfl inG5 11 (by decide) g509 rfl dX5_melt_224 ?_
                            refine lv_iconst (v := 3) hx hb dX5_melt_227 (by decide) ?_
                            refine lv_iload_n hx hb dX5_melt_228 rfl (lv_at hl 2 rfl) ?_
                            refine lw_imulN (a := 3) (b := i3) hx hb dX5_melt_229 ?_
                            refine lv_iload hx hb dX5_melt_230 (lv_at hl 0 rfl) ?_
                            refine lw_iaddN (a := 3 * i3) (b := k) hx hb dX5_melt_232 ?_
                            refine lv_dup2_11 hx hb dX5_melt_233 rfl rfl ?_
                            refine w_ialdN (i := 3 * i3 + k) X hW 31 0 Nat.zero_lt_one rfl (by omega) dX5_melt_234 ?_
                            refine lv_aload_n hx hb dX5_melt_235 rfl (lv_at hl 1 rfl) ?_
                            refine w_get X hW 13 0 Nat.zero_lt_one rfl rfl inG5 11 (by decide) g509 rfl dX5_melt_236 ?_
                            refine lv_iconst (v := 3) hx hb dX5_melt_239 (by decide) ?_
                            refine lv_iload_n hx hb dX5_melt_240 rfl (lv_at hl 3 rfl) ?_
                            refine lw_imulN (a := 3) (b := i5) hx hb dX5_melt_241 ?_
                            refine lv_iload hx hb dX5_melt_242 (lv_at hl 0 rfl) ?_
                            refine lw_iaddN (a := 3 * i5) (b := k) hx hb dX5_melt_244 ?_
                            refine w_ialdN (i := 3 * i5 + k) X hW 31 0 Nat.zero_lt_one rfl (by omega) dX5_melt_245 ?_
                            refine lv_ior hx hb dX5_melt_246 ?_
                            refine w_iastN (i := 3 * i3 + k) X hW hS 31 0 Nat.zero_lt_one rfl (by omega) rfl dX5_melt_247 (fun H locs hW hS => ?_)
                            obtain ⟨I36, eI36⟩ : ∃ z, z = k_up m1 31 0 (upd (m1 31 0) (3 * i3 + k) ((m1 31 0 (3 * i3 + k)) ||| (m1 31 0 (3 * i5 + k)))) := ⟨_, rfl⟩
                            rw [← eI36] at hW
                            have hs36 : m_S mA mK E I36 := by rw [eI36]; exact hs_217.up 31 _ _ (by decide)
                            refine lv_iinc (v := nI (k + 1)) (lv' := [(4, .int (nI (k + 1))), (0, .ref (ad 13 0)), (1, .int (nI i3)), (2, .int (nI i5))]) hx hb dX5_melt_248 hl (k := 0) rfl (nI_1 k) (by decide) rfl (fun ls hl => ?_)
                            refine lv_goto (tgt := 217) hx hb dX5_melt_251 (by decide) ?_
                            exact ih217 (k + 1) I36 (by omega) (by subst eI36; first | exact hz217 | (rw [← hz217]; simp [kLoop, mw, c_1, hk3, c_4, hk5, c_7, c_8, c_9, c_10, c_11, c_27, c_30, ← hz25]; done) | (rw [← hz217]; simp [kLoop, mw, c_1, hk3, c_4, hk5, c_7, c_8, c_9, c_10, c_11, c_27, c_30, ← hz25]; rfl)) hs36 _ _ hW hS ls (lv_sub hl [0, 1, 2, 3] rfl)
                        exact loop217 3 0 I32 (by omega) rfl hs32 _ _ hW hS ls (lv_sub hl [0, 2, 3, 4] rfl)
                      · skip
                        refine lv_aload_n hx hb dX5_melt_183 rfl (lv_at hl 2 rfl) ?_
                        refine w_get X hW 13 0 Nat.zero_lt_one rfl rfl inG5 13 (by decide) g511 rfl dX5_melt_184 ?_
                        refine lv_iload_n hx hb dX5_melt_187 rfl (lv_at hl 4 rfl) ?_
                        refine w_ialdN (i := i5) X hW 33 0 Nat.zero_lt_one rfl (by omega) dX5_melt_188 ?_
                        refine lv_goto (tgt := 198) hx hb dX5_melt_189 (by decide) ?_
                        refine w_iastN (i := i3) X hW hS 33 0 Nat.zero_lt_one rfl (by omega) rfl dX5_melt_198 (fun H locs hW hS => ?_)
                        obtain ⟨I37, eI37⟩ : ∃ z, z = k_up I29 33 0 (upd (I29 33 0) i3 (I29 33 0 i5)) := ⟨_, rfl⟩
                        rw [← eI37] at hW
                        have hs37 : m_S mA mK E I37 := by rw [eI37]; exact hs29.up 33 _ _ (by decide)
                        refine lv_aload_n hx hb dX5_melt_199 rfl (lv_at hl 2 rfl) ?_
                        refine w_get X hW 13 0 Nat.zero_lt_one rfl rfl inG5 14 (by decide) g512 rfl dX5_melt_200 ?_
                        refine lv_iload_n hx hb dX5_melt_203 rfl (lv_at hl 3 rfl) ?_
                        refine lv_dup2_11 hx hb dX5_melt_204 rfl rfl ?_
                        refine w_ialdN (i := i3) X hW 34 0 Nat.zero_lt_one rfl (by omega) dX5_melt_205 ?_
                        refine lv_aload_n hx hb dX5_melt_206 rfl (lv_at hl 2 rfl) ?_
                        refine w_get X hW 13 0 Nat.zero_lt_one rfl rfl inG5 14 (by decide) g512 rfl dX5_melt_207 ?_
                        refine lv_iload_n hx hb dX5_melt_210 rfl (lv_at hl 4 rfl) ?_
                        refine w_ialdN (i := i5) X hW 34 0 Nat.zero_lt_one rfl (by omega) dX5_melt_211 ?_
                        refine lv_iadd hx hb dX5_melt_212 ?_
                        refine w_iastN (i := i3) X hW hS 34 0 Nat.zero_lt_one rfl (by omega) rfl dX5_melt_213 (fun H locs hW hS => ?_)
                        obtain ⟨I38, eI38⟩ : ∃ z, z = k_up I37 34 0 (upd (I37 34 0) i3 ((I37 34 0 i3) + (I37 34 0 i5))) := ⟨_, rfl⟩
                        rw [← eI38] at hW
                        have hs38 : m_S mA mK E I38 := by rw [eI38]; exact hs37.up 34 _ _ (by decide)
                        refine lv_iconst (v := 0) hx hb dX5_melt_214 (by decide) ?_
                        refine lv_istore (lv' := [(4, .int 0), (3, .int n), (0, .ref (ad 13 0)), (1, .int (nI i3)), (2, .int (nI i5))]) hx hb dX5_melt_215 hl (by decide) rfl (fun ls hl => ?_)
                        have loop217 : ∀ (d k : Nat) (m1 : k_I), k + d = 3 → (kLoop (fun k I => mw 31 (3 * i3 + k) (I 31 0 (3 * i3 + k) ||| I 31 0 (3 * i5 + k)) I) d k m1 = mMe4 i3 i5 I38) → (m_S mA mK E m1) → ∀ (H : Heap) (locs : List Loc), Wd G ad nA nK m1 J28 H → va_S (k_A G) s.heap H locs → ∀ ls : Array Slot, lv_has ls 5 [(4, .int (nI k)), (0, .ref (ad 13 0)), (1, .int (nI i3)), (2, .int (nI i5))] → W p l e { frames := 2, cells := 0, slots := 0, locals := 46 } s m ([.ref (ad 13 0), .int (nI i3), .int (nI i5)] : List Value).toArray below meth c H locs 0 0 (MQ below (k_Q G (some (.int ((mcMelt mA (nI i3) (nI i5) (I, J)).1))) (Wd G ad nA nK ((mcMelt mA (nI i3) (nI i5) (I, J)).2.1) ((mcMelt mA (nI i3) (nI i5) (I, J)).2.2))) ([.ref (ad 13 0), .int (nI i3), .int (nI i5)] : List Value).toArray s 0 0 (k_A G)) (F0 m 217 ls []) := by
                          intro d
                          induction d with
                          | zero =>
                            intro k m1 hi217 hz217 hs_217 H locs hW hS ls hl
                            have eIm1 : m1 = mMe4 i3 i5 I38 := hz217
                            refine lv_iload hx hb dX5_melt_217 (lv_at hl 0 rfl) ?_
                            refine lv_iconst (v := 3) hx hb dX5_melt_219 (by decide) ?_
                            refine lv_icmp_ge (tgt := 254) hx hb dX5_melt_220 (by decide) (fun _ => ?_) (fun c_39 => absurd (nI_le (a := 3) (b := k) (by omega) (by omega)) c_39)
                            refine lv_aload_n hx hb dX5_melt_254 rfl (lv_at hl 1 rfl) ?_
                            refine w_get X hW 13 0 Nat.zero_lt_one rfl rfl inG5 8 (by decide) g506 rfl dX5_melt_255 ?_
                            refine lv_iload_n hx hb dX5_melt_258 rfl (lv_at hl 3 rfl) ?_
                            refine lv_iload_n hx hb dX5_melt_259 rfl (lv_at hl 2 rfl) ?_
                            refine w_iastN (i := i5) X hW hS 28 0 Nat.zero_lt_one rfl (by omega) rfl dX5_melt_260 (fun H locs hW hS => ?_)
                            obtain ⟨I40, eI40⟩ : ∃ z, z = k_up m1 28 0 (upd (m1 28 0) i5 (nI i3)) := ⟨_, rfl⟩
                            rw [← eI40] at hW
                            refine lv_iconst (v := 1) hx hb dX5_melt_261 (by decide) ?_
                            exact w_iret X hr hlk hS (by first | rfl | (simp [mcMelt, mMay, mMe, mMe1, mMe2, mMe3, mMeJ, mw, mwJ, c_1, hk3, c_4, hk5, c_7, c_8, c_9, c_10, c_11, c_27, c_30, ← hz25, eJ28, eI29, eI37, eI38, eIm1, eI40]; done) | (subst eI40 eIm1 eI38 eI37 eI29 eJ28; simp [mcMelt, mMay, mMe, mMe1, mMe2, mMe3, mMeJ, mw, mwJ, c_1, hk3, c_4, hk5, c_7, c_8, c_9, c_10, c_11, c_27, c_30, ← hz25]; done) | (simp [mcMelt, mMay, mMe, mMe1, mMe2, mMe3, mMeJ, mw, mwJ, c_1, hk3, c_4, hk5, c_7, c_8, c_9, c_10, c_11, c_27, c_30, ← hz25, eJ28, eI29, eI37, eI38, eIm1, eI40]; rfl)) (hW.to (by first | rfl | (subst eI40 eIm1 eI38 eI37 eI29 eJ28; simp [mcMelt, mMay, mMe, mMe1, mMe2, mMe3, mMeJ, mw, mwJ, c_1, hk3, c_4, hk5, c_7, c_8, c_9, c_10, c_11, c_27, c_30, ← hz25]; done) | (subst eI40 eIm1 eI38 eI37 eI29 eJ28; rfl) | (subst eI40 eIm1 eI38 eI37 eI29 eJ28; simp [mcMelt, mMay, mMe, mMe1, mMe2, mMe3, mMeJ, mw, mwJ, c_1, hk3, c_4, hk5, c_7, c_8, c_9, c_10, c_11, c_27, c_30, ← hz25]; done) | (subst eI40 eIm1 eI38 eI37 eI29 eJ28; simp [mcMelt, mMay, mMe, mMe1, mMe2, mMe3, mMeJ, mw, mwJ, c_1, hk3, c_4, hk5, c_7, c_8, c_9, c_10, c_11, c_27, c_30, ← hz25]; rfl) | (simp [mcMelt, mMay, mMe, mMe1, mMe2, mMe3, mMeJ, mw, mwJ, c_1, hk3, c_4, hk5, c_7, c_8, c_9, c_10, c_11, c_27, c_30, ← hz25, eJ28, eI29, eI37, eI38, eIm1, eI40]; done)) (by first | rfl | (subst eI40 eIm1 eI38 eI37 eI29 eJ28; simp [mcMelt, mMay, mMe, mMe1, mMe2, mMe3, mMeJ, mw, mwJ, c_1, hk3, c_4, hk5, c_7, c_8, c_9, c_10, c_11, c_27, c_30, ← hz25]; done) | (subst eI40 eIm1 eI38 eI37 eI29 eJ28; rfl) | (subst eI40 eIm1 eI38 eI37 eI29 eJ28; simp [mcMelt, mMay, mMe, mMe1, mMe2, mMe3, mMeJ, mw, mwJ, c_1, hk3, c_4, hk5, c_7, c_8, c_9, c_10, c_11, c_27, c_30, ← hz25]; done) | (subst eI40 eIm1 eI38 eI37 eI29 eJ28; simp [mcMelt, mMay, mMe, mMe1, mMe2, mMe3, mMeJ, mw, mwJ, c_1, hk3, c_4, hk5, c_7, c_8, c_9, c_10, c_11, c_27, c_30, ← hz25]; rfl) | (simp [mcMelt, mMay, mMe, mMe1, mMe2, mMe3, mMeJ, mw, mwJ, c_1, hk3, c_4, hk5, c_7, c_8, c_9, c_10, c_11, c_27, c_30, ← hz25, eJ28, eI29, eI37, eI38, eIm1, eI40]; done))) dX5_melt_262
                          | succ d ih =>
                            intro k m1 hi217 hz217 hs_217 H locs hW hS ls hl
                            have hlt217 : k < 3 := by omega
                            have ih217 := ih
                            refine lv_iload hx hb dX5_melt_217 (lv_at hl 0 rfl) ?_
                            refine lv_iconst (v := 3) hx hb dX5_melt_219 (by decide) ?_
                            refine lv_icmp_ge (tgt := 254) hx hb dX5_melt_220 (by decide) (fun c_41 => absurd c_41 (nI_ge (a := k) (b := 3) (by omega) (by omega))) (fun _ => ?_)
                            refine lv_aload_n hx hb dX5_melt_223 rfl (lv_at hl 1 rfl) ?_
                            refine w_get X hW 13 0 Nat.zero_lt_one rfl rfl inG5 11 (by decide) g509 rfl dX5_melt_224 ?_
                            refine lv_iconst (v := 3) hx hb dX5_melt_227 (by decide) ?_
                            refine lv_iload_n hx hb dX5_melt_228 rfl (lv_at hl 2 rfl) ?_
                            refine lw_imulN (a := 3) (b := i3) hx hb dX5_melt_229 ?_
                            refine lv_iload hx hb dX5_melt_230 (lv_at hl 0 rfl) ?_
                            refine lw_iaddN (a := 3 * i3) (b := k) hx hb dX5_melt_232 ?_
                            refine lv_dup2_11 hx hb dX5_melt_233 rfl rfl ?_
                            refine w_ialdN (i := 3 * i3 + k) X hW 31 0 Nat.zero_lt_one rfl (by omega) dX5_melt_234 ?_
                            refine lv_aload_n hx hb dX5_melt_235 rfl (lv_at hl 1 rfl) ?_
                            refine w_get X hW 13 0 Nat.zero_lt_one rfl rfl inG5 11 (by decide) g509 rfl dX5_melt_236 ?_
                            refine lv_iconst (v := 3) hx hb dX5_melt_239 (by decide) ?_
                            refine lv_iload_n hx hb dX5_melt_240 rfl (lv_at hl 3 rfl) ?_
                            refine lw_imulN (a := 3) (b := i5) hx hb dX5_melt_241 ?_
                            refine lv_iload hx hb dX5_melt_242 (lv_at hl 0 rfl) ?_
                            refine lw_iaddN (a := 3 * i5) (b := k) hx hb dX5_melt_244 ?_
                            refine w_ialdN (i := 3 * i5 + k) X hW 31 0 Nat.zero_lt_one rfl (by omega) dX5_melt_245 ?_
                            refine lv_ior hx hb dX5_melt_246 ?_
                            refine w_iastN (i := 3 * i3 + k) X hW hS 31 0 Nat.zero_lt_one rfl (by omega) rfl dX5_melt_247 (fun H locs hW hS => ?_)
                            obtain ⟨I42, eI42⟩ : ∃ z, z = k_up m1 31 0 (upd (m1 31 0) (3 * i3 + k) ((m1 31 0 (3 * i3 + k)) ||| (m1 31 0 (3 * i5 + k)))) := ⟨_, rfl⟩
                            rw [← eI42] at hW
                            have hs42 : m_S mA mK E I42 := by rw [eI42]; exact hs_217.up 31 _ _ (by decide)
                            refine lv_iinc (v := nI (k + 1)) (lv' := [(4, .int (nI (k + 1))), (0, .ref (ad 13 0)), (1, .int (nI i3)), (2, .int (nI i5))]) hx hb dX5_melt_248 hl (k := 0) rfl (nI_1 k) (by decide) rfl (fun ls hl => ?_)
                            refine lv_goto (tgt := 217) hx hb dX5_melt_251 (by decide) ?_
                            exact ih217 (k + 1) I42 (by omega) (by subst eI42; first | exact hz217 | (rw [← hz217]; simp [kLoop, mw, c_1, hk3, c_4, hk5, c_7, c_8, c_9, c_10, c_11, c_27, c_30, ← hz25]; done) | (rw [← hz217]; simp [kLoop, mw, c_1, hk3, c_4, hk5, c_7, c_8, c_9, c_10, c_11, c_27, c_30, ← hz25]; rfl)) hs42 _ _ hW hS ls (lv_sub hl [0, 1, 2, 3] rfl)
                        exact loop217 3 0 I38 (by omega) rfl hs38 _ _ hW hS ls (lv_sub hl [0, 2, 3, 4] rfl)
                    · skip
                      refine lv_aload_n hx hb dX5_melt_120 rfl (lv_at hl 2 rfl) ?_
                      refine lv_iload_n hx hb dX5_melt_121 rfl (lv_at hl 4 rfl) ?_
                      refine lv_iload_n hx hb dX5_melt_122 rfl (lv_at hl 3 rfl) ?_
                      refine w_cV1 X hS (m_X5_isWithin l G ad nA nK mA mK E I J i5 i3 (by first | assumption | omega) (by first | assumption | omega)) rfl rfl g662 g4 g659 g661 p37 hd_X5_isWithin ⟨Nat.le_of_ble_eq_true rfl, Nat.le_of_ble_eq_true rfl⟩ (k_rec X hW 13 0 Nat.zero_lt_one rfl rfl) hW hl.1 rfl (Nat.le_of_ble_eq_true rfl) dX5_melt_123 (Nat.zero_le _) (Nat.zero_le _) (fun H locs hW hS => ?_)
                      refine lb_if_ne (tgt := 133) hx hb dX5_melt_126 (by decide) (fun c_43 => ?_) (fun c_43 => ?_)
                      · skip
                        refine lv_aload_n hx hb dX5_melt_133 rfl (lv_at hl 2 rfl) ?_
                        refine w_get X hW 13 0 Nat.zero_lt_one rfl rfl inG5 9 (by decide) g507 rfl dX5_melt_134 ?_
                        refine lv_iload_n hx hb dX5_melt_137 rfl (lv_at hl 3 rfl) ?_
                        refine lv_dup2_11 hx hb dX5_melt_138 rfl rfl ?_
                        refine w_laldN (i := i3) X hW 29 0 Nat.zero_lt_one rfl (by omega) dX5_melt_139 ?_
                        refine lv_aload_n hx hb dX5_melt_140 rfl (lv_at hl 2 rfl) ?_
                        refine w_get X hW 13 0 Nat.zero_lt_one rfl rfl inG5 9 (by decide) g507 rfl dX5_melt_141 ?_
                        refine lv_iload_n hx hb dX5_melt_144 rfl (lv_at hl 4 rfl) ?_
                        refine w_laldN (i := i5) X hW 29 0 Nat.zero_lt_one rfl (by omega) dX5_melt_145 ?_
                        refine lv_lor hx hb dX5_melt_146 ?_
                        refine w_lastN (i := i3) X hW hS 29 0 Nat.zero_lt_one rfl (by omega) rfl dX5_melt_147 (fun H locs hW hS => ?_)
                        obtain ⟨J44, eJ44⟩ : ∃ z, z = k_up J 29 0 (vp_updL (J 29 0) i3 ((J 29 0 i3) ||| (J 29 0 i5))) := ⟨_, rfl⟩
                        rw [← eJ44] at hW
                        refine lv_aload_n hx hb dX5_melt_148 rfl (lv_at hl 2 rfl) ?_
                        refine w_get X hW 13 0 Nat.zero_lt_one rfl rfl inG5 12 (by decide) g510 rfl dX5_melt_149 ?_
                        refine lv_iload_n hx hb dX5_melt_152 rfl (lv_at hl 3 rfl) ?_
                        refine lv_dup2_11 hx hb dX5_melt_153 rfl rfl ?_
                        refine w_ialdN (i := i3) X hW 32 0 Nat.zero_lt_one rfl (by omega) dX5_melt_154 ?_
                        refine lv_aload_n hx hb dX5_melt_155 rfl (lv_at hl 2 rfl) ?_
                        refine w_get X hW 13 0 Nat.zero_lt_one rfl rfl inG5 12 (by decide) g510 rfl dX5_melt_156 ?_
                        refine lv_iload_n hx hb dX5_melt_159 rfl (lv_at hl 4 rfl) ?_
                        refine w_ialdN (i := i5) X hW 32 0 Nat.zero_lt_one rfl (by omega) dX5_melt_160 ?_
                        refine lv_ior hx hb dX5_melt_161 ?_
                        refine w_iastN (i := i3) X hW hS 32 0 Nat.zero_lt_one rfl (by omega) rfl dX5_melt_162 (fun H locs hW hS => ?_)
                        obtain ⟨I45, eI45⟩ : ∃ z, z = k_up I 32 0 (upd (I 32 0) i3 ((I 32 0 i3) ||| (I 32 0 i5))) := ⟨_, rfl⟩
                        rw [← eI45] at hW
                        have hs45 : m_S mA mK E I45 := by rw [eI45]; exact hs.up 32 _ _ (by decide)
                        refine lv_aload_n hx hb dX5_melt_163 rfl (lv_at hl 2 rfl) ?_
                        refine w_get X hW 13 0 Nat.zero_lt_one rfl rfl inG5 13 (by decide) g511 rfl dX5_melt_164 ?_
                        refine lv_iload_n hx hb dX5_melt_167 rfl (lv_at hl 3 rfl) ?_
                        refine lv_aload_n hx hb dX5_melt_168 rfl (lv_at hl 2 rfl) ?_
                        refine w_get X hW 13 0 Nat.zero_lt_one rfl rfl inG5 13 (by decide) g511 rfl dX5_melt_169 ?_
                        refine lv_iload_n hx hb dX5_melt_172 rfl (lv_at hl 4 rfl) ?_
                        refine w_ialdN (i := i5) X hW 33 0 Nat.zero_lt_one rfl (by omega) dX5_melt_173 ?_
                        refine lv_aload_n hx hb dX5_melt_174 rfl (lv_at hl 2 rfl) ?_
                        refine w_get X hW 13 0 Nat.zero_lt_one rfl rfl inG5 13 (by decide) g511 rfl dX5_melt_175 ?_
                        refine lv_iload_n hx hb dX5_melt_178 rfl (lv_at hl 3 rfl) ?_
                        refine w_ialdN (i := i3) X hW 33 0 Nat.zero_lt_one rfl (by omega) dX5_melt_179 ?_
                        refine lv_icmp_ge (tgt := 192) hx hb dX5_melt_180 (by decide) (fun c_46 => ?_) (fun c_46 => ?_)
                        · skip
                          refine lv_aload_n hx hb dX5_melt_192 rfl (lv_at hl 2 rfl) ?_
                          refine w_get X hW 13 0 Nat.zero_lt_one rfl rfl inG5 13 (by decide) g511 rfl dX5_melt_193 ?_
                          refine lv_iload_n hx hb dX5_melt_196 rfl (lv_at hl 3 rfl) ?_
                          refine w_ialdN (i := i3) X hW 33 0 Nat.zero_lt_one rfl (by omega) dX5_melt_197 ?_
                          refine w_iastN (i := i3) X hW hS 33 0 Nat.zero_lt_one rfl (by omega) rfl dX5_melt_198 (fun H locs hW hS => ?_)
                          obtain ⟨I47, eI47⟩ : ∃ z, z = k_up I45 33 0 (upd (I45 33 0) i3 (I45 33 0 i3)) := ⟨_, rfl⟩
                          rw [← eI47] at hW
                          have hs47 : m_S mA mK E I47 := by rw [eI47]; exact hs45.up 33 _ _ (by decide)
                          refine lv_aload_n hx hb dX5_melt_199 rfl (lv_at hl 2 rfl) ?_
                          refine w_get X hW 13 0 Nat.zero_lt_one rfl rfl inG5 14 (by decide) g512 rfl dX5_melt_200 ?_
                          refine lv_iload_n hx hb dX5_melt_203 rfl (lv_at hl 3 rfl) ?_
                          refine lv_dup2_11 hx hb dX5_melt_204 rfl rfl ?_
                          refine w_ialdN (i := i3) X hW 34 0 Nat.zero_lt_one rfl (by omega) dX5_melt_205 ?_
                          refine lv_aload_n hx hb dX5_melt_206 rfl (lv_at hl 2 rfl) ?_
                          refine w_get X hW 13 0 Nat.zero_lt_one rfl rfl inG5 14 (by decide) g512 rfl dX5_melt_207 ?_
                          refine lv_iload_n hx hb dX5_melt_210 rfl (lv_at hl 4 rfl) ?_
                          refine w_ialdN (i := i5) X hW 34 0 Nat.zero_lt_one rfl (by omega) dX5_melt_211 ?_
                          refine lv_iadd hx hb dX5_melt_212 ?_
                          refine w_iastN (i := i3) X hW hS 34 0 Nat.zero_lt_one rfl (by omega) rfl dX5_melt_213 (fun H locs hW hS => ?_)
                          obtain ⟨I48, eI48⟩ : ∃ z, z = k_up I47 34 0 (upd (I47 34 0) i3 ((I47 34 0 i3) + (I47 34 0 i5))) := ⟨_, rfl⟩
                          rw [← eI48] at hW
                          have hs48 : m_S mA mK E I48 := by rw [eI48]; exact hs47.up 34 _ _ (by decide)
                          refine lv_iconst (v := 0) hx hb dX5_melt_214 (by decide) ?_
                          refine lv_istore (lv' := [(4, .int 0), (3, .int n), (0, .ref (ad 13 0)), (1, .int (nI i3)), (2, .int (nI i5))]) hx hb dX5_melt_215 hl (by decide) rfl (fun ls hl => ?_)
                          have loop217 : ∀ (d k : Nat) (m1 : k_I), k + d = 3 → (kLoop (fun k I => mw 31 (3 * i3 + k) (I 31 0 (3 * i3 + k) ||| I 31 0 (3 * i5 + k)) I) d k m1 = mMe4 i3 i5 I48) → (m_S mA mK E m1) → ∀ (H : Heap) (locs : List Loc), Wd G ad nA nK m1 J44 H → va_S (k_A G) s.heap H locs → ∀ ls : Array Slot, lv_has ls 5 [(4, .int (nI k)), (0, .ref (ad 13 0)), (1, .int (nI i3)), (2, .int (nI i5))] → W p l e { frames := 2, cells := 0, slots := 0, locals := 46 } s m ([.ref (ad 13 0), .int (nI i3), .int (nI i5)] : List Value).toArray below meth c H locs 0 0 (MQ below (k_Q G (some (.int ((mcMelt mA (nI i3) (nI i5) (I, J)).1))) (Wd G ad nA nK ((mcMelt mA (nI i3) (nI i5) (I, J)).2.1) ((mcMelt mA (nI i3) (nI i5) (I, J)).2.2))) ([.ref (ad 13 0), .int (nI i3), .int (nI i5)] : List Value).toArray s 0 0 (k_A G)) (F0 m 217 ls []) := by
                            intro d
                            induction d with
                            | zero =>
                              intro k m1 hi217 hz217 hs_217 H locs hW hS ls hl
                              have eIm1 : m1 = mMe4 i3 i5 I48 := hz217
                              refine lv_iload hx hb dX5_melt_217 (lv_at hl 0 rfl) ?_
                              refine lv_iconst (v := 3) hx hb dX5_melt_219 (by decide) ?_
                              refine lv_icmp_ge (tgt := 254) hx hb dX5_melt_220 (by decide) (fun _ => ?_) (fun c_49 => absurd (nI_le (a := 3) (b := k) (by omega) (by omega)) c_49)
                              refine lv_aload_n hx hb dX5_melt_254 rfl (lv_at hl 1 rfl) ?_
                              refine w_get X hW 13 0 Nat.zero_lt_one rfl rfl inG5 8 (by decide) g506 rfl dX5_melt_255 ?_
                              refine lv_iload_n hx hb dX5_melt_258 rfl (lv_at hl 3 rfl) ?_
                              refine lv_iload_n hx hb dX5_melt_259 rfl (lv_at hl 2 rfl) ?_
                              refine w_iastN (i := i5) X hW hS 28 0 Nat.zero_lt_one rfl (by omega) rfl dX5_melt_260 (fun H locs hW hS => ?_)
                              obtain ⟨I50, eI50⟩ : ∃ z, z = k_up m1 28 0 (upd (m1 28 0) i5 (nI i3)) := ⟨_, rfl⟩
                              rw [← eI50] at hW
                              refine lv_iconst (v := 1) hx hb dX5_melt_261 (by decide) ?_
                              exact w_iret X hr hlk hS (by first | rfl | (simp [mcMelt, mMay, mMe, mMe1, mMe2, mMe3, mMeJ, mw, mwJ, c_1, hk3, c_4, hk5, c_7, c_8, c_9, c_10, c_11, c_27, c_43, c_46, ← hz25, eJ44, eI45, eI47, eI48, eIm1, eI50]; done) | (subst eI50 eIm1 eI48 eI47 eI45 eJ44; simp [mcMelt, mMay, mMe, mMe1, mMe2, mMe3, mMeJ, mw, mwJ, c_1, hk3, c_4, hk5, c_7, c_8, c_9, c_10, c_11, c_27, c_43, c_46, ← hz25]; done) | (simp [mcMelt, mMay, mMe, mMe1, mMe2, mMe3, mMeJ, mw, mwJ, c_1, hk3, c_4, hk5, c_7, c_8, c_9, c_10, c_11, c_27, c_43, c_46, ← hz25, eJ44, eI45, eI47, eI48, eIm1, eI50]; rfl)) (hW.to (by first | rfl | (subst eI50 eIm1 eI48 eI47 eI45 eJ44; simp [mcMelt, mMay, mMe, mMe1, mMe2, mMe3, mMeJ, mw, mwJ, c_1, hk3, c_4, hk5, c_7, c_8, c_9, c_10, c_11, c_27, c_43, c_46, ← hz25]; done) | (subst eI50 eIm1 eI48 eI47 eI45 eJ44; rfl) | (subst eI50 eIm1 eI48 eI47 eI45 eJ44; simp [mcMelt, mMay, mMe, mMe1, mMe2, mMe3, mMeJ, mw, mwJ, c_1, hk3, c_4, hk5, c_7, c_8, c_9, c_10, c_11, c_27, c_43, c_46, ← hz25]; done) | (subst eI50 eIm1 eI48 eI47 eI45 eJ44; simp [mcMelt, mMay, mMe, mMe1, mMe2, mMe3, mMeJ, mw, mwJ, c_1, hk3, c_4, hk5, c_7, c_8, c_9, c_10, c_11, c_27, c_43, c_46, ← hz25]; rfl) | (simp [mcMelt, mMay, mMe, mMe1, mMe2, mMe3, mMeJ, mw, mwJ, c_1, hk3, c_4, hk5, c_7, c_8, c_9, c_10, c_11, c_27, c_43, c_46, ← hz25, eJ44, eI45, eI47, eI48, eIm1, eI50]; done)) (by first | rfl | (subst eI50 eIm1 eI48 eI47 eI45 eJ44; simp [mcMelt, mMay, mMe, mMe1, mMe2, mMe3, mMeJ, mw, mwJ, c_1, hk3, c_4, hk5, c_7, c_8, c_9, c_10, c_11, c_27, c_43, c_46, ← hz25]; done) | (subst eI50 eIm1 eI48 eI47 eI45 eJ44; rfl) | (subst eI50 eIm1 eI48 eI47 eI45 eJ44; simp [mcMelt, mMay, mMe, mMe1, mMe2, mMe3, mMeJ, mw, mwJ, c_1, hk3, c_4, hk5, c_7, c_8, c_9, c_10, c_11, c_27, c_43, c_46, ← hz25]; done) | (subst eI50 eIm1 eI48 eI47 eI45 eJ44; simp [mcMelt, mMay, mMe, mMe1, mMe2, mMe3, mMeJ, mw, mwJ, c_1, hk3, c_4, hk5, c_7, c_8, c_9, c_10, c_11, c_27, c_43, c_46, ← hz25]; rfl) | (simp [mcMelt, mMay, mMe, mMe1, mMe2, mMe3, mMeJ, mw, mwJ, c_1, hk3, c_4, hk5, c_7, c_8, c_9, c_10, c_11, c_27, c_43, c_46, ← hz25, eJ44, eI45, eI47, eI48, eIm1, eI50]; done))) dX5_melt_262
                            | succ d ih =>
                              intro k m1 hi217 hz217 hs_217 H locs hW hS ls hl
                              have hlt217 : k < 3 := by omega
                              have ih217 := ih
                              refine lv_iload hx hb dX5_melt_217 (lv_at hl 0 rfl) ?_
                              refine lv_iconst (v := 3) hx hb dX5_melt_219 (by decide) ?_
                              refine lv_icmp_ge (tgt := 254) hx hb dX5_melt_220 (by decide) (fun c_51 => absurd c_51 (nI_ge (a := k) (b := 3) (by omega) (by omega))) (fun _ => ?_)
                              refine lv_aload_n hx hb dX5_melt_223 rfl (lv_at hl 1 rfl) ?_
                              refine w_get X hW 13 0 Nat.zero_lt_one rfl rfl inG5 11 (by decide) g509 rfl dX5_melt_224 ?_
                              refine lv_iconst (v := 3) hx hb dX5_melt_227 (by decide) ?_
                              refine lv_iload_n hx hb dX5_melt_228 rfl (lv_at hl 2 rfl) ?_
                              refine lw_imulN (a := 3) (b := i3) hx hb dX5_melt_229 ?_
                              refine lv_iload hx hb dX5_melt_230 (lv_at hl 0 rfl) ?_
                              refine lw_iaddN (a := 3 * i3) (b := k) hx hb dX5_melt_232 ?_
                              refine lv_dup2_11 hx hb dX5_melt_233 rfl rfl ?_
                              refine w_ialdN (i := 3 * i3 + k) X hW 31 0 Nat.zero_lt_one rfl (by omega) dX5_melt_234 ?_
                              refine lv_aload_n hx hb dX5_melt_235 rfl (lv_at hl 1 rfl) ?_
                              refine w_get X hW 13 0 Nat.zero_lt_one rfl rfl inG5 11 (by decide) g509 rfl dX5_melt_236 ?_
                              refine lv_iconst (v := 3) hx hb dX5_melt_239 (by decide) ?_
                              refine lv_iload_n hx hb dX5_melt_240 rfl (lv_at hl 3 rfl) ?_
                              refine lw_imulN (a := 3) (b := i5) hx hb dX5_melt_241 ?_
                              refine lv_iload hx hb dX5_melt_242 (lv_at hl 0 rfl) ?_
                              refine lw_iaddN (a := 3 * i5) (b := k) hx hb dX5_melt_244 ?_
                              refine w_ialdN (i := 3 * i5 + k) X hW 31 0 Nat.zero_lt_one rfl (by omega) dX5_melt_245 ?_
                              refine lv_ior hx hb dX5_melt_246 ?_
                              refine w_iastN (i := 3 * i3 + k) X hW hS 31 0 Nat.zero_lt_one rfl (by omega) rfl dX5_melt_247 (fun H locs hW hS => ?_)
                              obtain ⟨I52, eI52⟩ : ∃ z, z = k_up m1 31 0 (upd (m1 31 0) (3 * i3 + k) ((m1 31 0 (3 * i3 + k)) ||| (m1 31 0 (3 * i5 + k)))) := ⟨_, rfl⟩
                              rw [← eI52] at hW
                              have hs52 : m_S mA mK E I52 := by rw [eI52]; exact hs_217.up 31 _ _ (by decide)
                              refine lv_iinc (v := nI (k + 1)) (lv' := [(4, .int (nI (k + 1))), (0, .ref (ad 13 0)), (1, .int (nI i3)), (2, .int (nI i5))]) hx hb dX5_melt_248 hl (k := 0) rfl (nI_1 k) (by decide) rfl (fun ls hl => ?_)
                              refine lv_goto (tgt := 217) hx hb dX5_melt_251 (by decide) ?_
                              exact ih217 (k + 1) I52 (by omega) (by subst eI52; first | exact hz217 | (rw [← hz217]; simp [kLoop, mw, c_1, hk3, c_4, hk5, c_7, c_8, c_9, c_10, c_11, c_27, c_43, c_46, ← hz25]; done) | (rw [← hz217]; simp [kLoop, mw, c_1, hk3, c_4, hk5, c_7, c_8, c_9, c_10, c_11, c_27, c_43, c_46, ← hz25]; rfl)) hs52 _ _ hW hS ls (lv_sub hl [0, 1, 2, 3] rfl)
                          exact loop217 3 0 I48 (by omega) rfl hs48 _ _ hW hS ls (lv_sub hl [0, 2, 3, 4] rfl)
                        · skip
                          refine lv_aload_n hx hb dX5_melt_183 rfl (lv_at hl 2 rfl) ?_
                          refine w_get X hW 13 0 Nat.zero_lt_one rfl rfl inG5 13 (by decide) g511 rfl dX5_melt_184 ?_
                          refine lv_iload_n hx hb dX5_melt_187 rfl (lv_at hl 4 rfl) ?_
                          refine w_ialdN (i := i5) X hW 33 0 Nat.zero_lt_one rfl (by omega) dX5_melt_188 ?_
                          refine lv_goto (tgt := 198) hx hb dX5_melt_189 (by decide) ?_
                          refine w_iastN (i := i3) X hW hS 33 0 Nat.zero_lt_one rfl (by omega) rfl dX5_melt_198 (fun H locs hW hS => ?_)
                          obtain ⟨I53, eI53⟩ : ∃ z, z = k_up I45 33 0 (upd (I45 33 0) i3 (I45 33 0 i5)) := ⟨_, rfl⟩
                          rw [← eI53] at hW
                          have hs53 : m_S mA mK E I53 := by rw [eI53]; exact hs45.up 33 _ _ (by decide)
                          refine lv_aload_n hx hb dX5_melt_199 rfl (lv_at hl 2 rfl) ?_
                          refine w_get X hW 13 0 Nat.zero_lt_one rfl rfl inG5 14 (by decide) g512 rfl dX5_melt_200 ?_
                          refine lv_iload_n hx hb dX5_melt_203 rfl (lv_at hl 3 rfl) ?_
                          refine lv_dup2_11 hx hb dX5_melt_204 rfl rfl ?_
                          refine w_ialdN (i := i3) X hW 34 0 Nat.zero_lt_one rfl (by omega) dX5_melt_205 ?_
                          refine lv_aload_n hx hb dX5_melt_206 rfl (lv_at hl 2 rfl) ?_
                          refine w_get X hW 13 0 Nat.zero_lt_one rfl rfl inG5 14 (by decide) g512 rfl dX5_melt_207 ?_
                          refine lv_iload_n hx hb dX5_melt_210 rfl (lv_at hl 4 rfl) ?_
                          refine w_ialdN (i := i5) X hW 34 0 Nat.zero_lt_one rfl (by omega) dX5_melt_211 ?_
                          refine lv_iadd hx hb dX5_melt_212 ?_
                          refine w_iastN (i := i3) X hW hS 34 0 Nat.zero_lt_one rfl (by omega) rfl dX5_melt_213 (fun H locs hW hS => ?_)
                          obtain ⟨I54, eI54⟩ : ∃ z, z = k_up I53 34 0 (upd (I53 34 0) i3 ((I53 34 0 i3) + (I53 34 0 i5))) := ⟨_, rfl⟩
                          rw [← eI54] at hW
                          have hs54 : m_S mA mK E I54 := by rw [eI54]; exact hs53.up 34 _ _ (by decide)
                          refine lv_iconst (v := 0) hx hb dX5_melt_214 (by decide) ?_
                          refine lv_istore (lv' := [(4, .int 0), (3, .int n), (0, .ref (ad 13 0)), (1, .int (nI i3)), (2, .int (nI i5))]) hx hb dX5_melt_215 hl (by decide) rfl (fun ls hl => ?_)
                          have loop217 : ∀ (d k : Nat) (m1 : k_I), k + d = 3 → (kLoop (fun k I => mw 31 (3 * i3 + k) (I 31 0 (3 * i3 + k) ||| I 31 0 (3 * i5 + k)) I) d k m1 = mMe4 i3 i5 I54) → (m_S mA mK E m1) → ∀ (H : Heap) (locs : List Loc), Wd G ad nA nK m1 J44 H → va_S (k_A G) s.heap H locs → ∀ ls : Array Slot, lv_has ls 5 [(4, .int (nI k)), (0, .ref (ad 13 0)), (1, .int (nI i3)), (2, .int (nI i5))] → W p l e { frames := 2, cells := 0, slots := 0, locals := 46 } s m ([.ref (ad 13 0), .int (nI i3), .int (nI i5)] : List Value).toArray below meth c H locs 0 0 (MQ below (k_Q G (some (.int ((mcMelt mA (nI i3) (nI i5) (I, J)).1))) (Wd G ad nA nK ((mcMelt mA (nI i3) (nI i5) (I, J)).2.1) ((mcMelt mA (nI i3) (nI i5) (I, J)).2.2))) ([.ref (ad 13 0), .int (nI i3), .int (nI i5)] : List Value).toArray s 0 0 (k_A G)) (F0 m 217 ls []) := by
                            intro d
                            induction d with
                            | zero =>
                              intro k m1 hi217 hz217 hs_217 H locs hW hS ls hl
                              have eIm1 : m1 = mMe4 i3 i5 I54 := hz217
                              refine lv_iload hx hb dX5_melt_217 (lv_at hl 0 rfl) ?_
                              refine lv_iconst (v := 3) hx hb dX5_melt_219 (by decide) ?_
                              refine lv_icmp_ge (tgt := 254) hx hb dX5_melt_220 (by decide) (fun _ => ?_) (fun c_55 => absurd (nI_le (a := 3) (b := k) (by omega) (by omega)) c_55)
                              refine lv_aload_n hx hb dX5_melt_254 rfl (lv_at hl 1 rfl) ?_
                              refine w_get X hW 13 0 Nat.zero_lt_one rfl rfl inG5 8 (by decide) g506 rfl dX5_melt_255 ?_
                              refine lv_iload_n hx hb dX5_melt_258 rfl (lv_at hl 3 rfl) ?_
                              refine lv_iload_n hx hb dX5_melt_259 rfl (lv_at hl 2 rfl) ?_
                              refine w_iastN (i := i5) X hW hS 28 0 Nat.zero_lt_one rfl (by omega) rfl dX5_melt_260 (fun H locs hW hS => ?_)
                              obtain ⟨I56, eI56⟩ : ∃ z, z = k_up m1 28 0 (upd (m1 28 0) i5 (nI i3)) := ⟨_, rfl⟩
                              rw [← eI56] at hW
                              refine lv_iconst (v := 1) hx hb dX5_melt_261 (by decide) ?_
                              exact w_iret X hr hlk hS (by first | rfl | (simp [mcMelt, mMay, mMe, mMe1, mMe2, mMe3, mMeJ, mw, mwJ, c_1, hk3, c_4, hk5, c_7, c_8, c_9, c_10, c_11, c_27, c_43, c_46, ← hz25, eJ44, eI45, eI53, eI54, eIm1, eI56]; done) | (subst eI56 eIm1 eI54 eI53 eI45 eJ44; simp [mcMelt, mMay, mMe, mMe1, mMe2, mMe3, mMeJ, mw, mwJ, c_1, hk3, c_4, hk5, c_7, c_8, c_9, c_10, c_11, c_27, c_43, c_46, ← hz25]; done) | (simp [mcMelt, mMay, mMe, mMe1, mMe2, mMe3, mMeJ, mw, mwJ, c_1, hk3, c_4, hk5, c_7, c_8, c_9, c_10, c_11, c_27, c_43, c_46, ← hz25, eJ44, eI45, eI53, eI54, eIm1, eI56]; rfl)) (hW.to (by first | rfl | (subst eI56 eIm1 eI54 eI53 eI45 eJ44; simp [mcMelt, mMay, mMe, mMe1, mMe2, mMe3, mMeJ, mw, mwJ, c_1, hk3, c_4, hk5, c_7, c_8, c_9, c_10, c_11, c_27, c_43, c_46, ← hz25]; done) | (subst eI56 eIm1 eI54 eI53 eI45 eJ44; rfl) | (subst eI56 eIm1 eI54 eI53 eI45 eJ44; simp [mcMelt, mMay, mMe, mMe1, mMe2, mMe3, mMeJ, mw, mwJ, c_1, hk3, c_4, hk5, c_7, c_8, c_9, c_10, c_11, c_27, c_43, c_46, ← hz25]; done) | (subst eI56 eIm1 eI54 eI53 eI45 eJ44; simp [mcMelt, mMay, mMe, mMe1, mMe2, mMe3, mMeJ, mw, mwJ, c_1, hk3, c_4, hk5, c_7, c_8, c_9, c_10, c_11, c_27, c_43, c_46, ← hz25]; rfl) | (simp [mcMelt, mMay, mMe, mMe1, mMe2, mMe3, mMeJ, mw, mwJ, c_1, hk3, c_4, hk5, c_7, c_8, c_9, c_10, c_11, c_27, c_43, c_46, ← hz25, eJ44, eI45, eI53, eI54, eIm1, eI56]; done)) (by first | rfl | (subst eI56 eIm1 eI54 eI53 eI45 eJ44; simp [mcMelt, mMay, mMe, mMe1, mMe2, mMe3, mMeJ, mw, mwJ, c_1, hk3, c_4, hk5, c_7, c_8, c_9, c_10, c_11, c_27, c_43, c_46, ← hz25]; done) | (subst eI56 eIm1 eI54 eI53 eI45 eJ44; rfl) | (subst eI56 eIm1 eI54 eI53 eI45 eJ44; simp [mcMelt, mMay, mMe, mMe1, mMe2, mMe3, mMeJ, mw, mwJ, c_1, hk3, c_4, hk5, c_7, c_8, c_9, c_10, c_11, c_27, c_43, c_46, ← hz25]; done) | (subst eI56 eIm1 eI54 eI53 eI45 eJ44; simp [mcMelt, mMay, mMe, mMe1, mMe2, mMe3, mMeJ, mw, mwJ, c_1, hk3, c_4, hk5, c_7, c_8, c_9, c_10, c_11, c_27, c_43, c_46, ← hz25]; rfl) | (simp [mcMelt, mMay, mMe, mMe1, mMe2, mMe3, mMeJ, mw, mwJ, c_1, hk3, c_4, hk5, c_7, c_8, c_9, c_10, c_11, c_27, c_43, c_46, ← hz25, eJ44, eI45, eI53, eI54, eIm1, eI56]; done))) dX5_melt_262
                            | succ d ih =>
                              intro k m1 hi217 hz217 hs_217 H locs hW hS ls hl
                              have hlt217 : k < 3 := by omega
                              have ih217 := ih
                              refine lv_iload hx hb dX5_melt_217 (lv_at hl 0 rfl) ?_
                              refine lv_iconst (v := 3) hx hb dX5_melt_219 (by decide) ?_
                              refine lv_icmp_ge (tgt := 254) hx hb dX5_melt_220 (by decide) (fun c_57 => absurd c_57 (nI_ge (a := k) (b := 3) (by omega) (by omega))) (fun _ => ?_)
                              refine lv_aload_n hx hb dX5_melt_223 rfl (lv_at hl 1 rfl) ?_
                              refine w_get X hW 13 0 Nat.zero_lt_one rfl rfl inG5 11 (by decide) g509 rfl dX5_melt_224 ?_
                              refine lv_iconst (v := 3) hx hb dX5_melt_227 (by decide) ?_
                              refine lv_iload_n hx hb dX5_melt_228 rfl (lv_at hl 2 rfl) ?_
                              refine lw_imulN (a := 3) (b := i3) hx hb dX5_melt_229 ?_
                              refine lv_iload hx hb dX5_melt_230 (lv_at hl 0 rfl) ?_
                              refine lw_iaddN (a := 3 * i3) (b := k) hx hb dX5_melt_232 ?_
                              refine lv_dup2_11 hx hb dX5_melt_233 rfl rfl ?_
                              refine w_ialdN (i := 3 * i3 + k) X hW 31 0 Nat.zero_lt_one rfl (by omega) dX5_melt_234 ?_
                              refine lv_aload_n hx hb dX5_melt_235 rfl (lv_at hl 1 rfl) ?_
                              refine w_get X hW 13 0 Nat.zero_lt_one rfl rfl inG5 11 (by decide) g509 rfl dX5_melt_236 ?_
                              refine lv_iconst (v := 3) hx hb dX5_melt_239 (by decide) ?_
                              refine lv_iload_n hx hb dX5_melt_240 rfl (lv_at hl 3 rfl) ?_
                              refine lw_imulN (a := 3) (b := i5) hx hb dX5_melt_241 ?_
                              refine lv_iload hx hb dX5_melt_242 (lv_at hl 0 rfl) ?_
                              refine lw_iaddN (a := 3 * i5) (b := k) hx hb dX5_melt_244 ?_
                              refine w_ialdN (i := 3 * i5 + k) X hW 31 0 Nat.zero_lt_one rfl (by omega) dX5_melt_245 ?_
                              refine lv_ior hx hb dX5_melt_246 ?_
                              refine w_iastN (i := 3 * i3 + k) X hW hS 31 0 Nat.zero_lt_one rfl (by omega) rfl dX5_melt_247 (fun H locs hW hS => ?_)
                              obtain ⟨I58, eI58⟩ : ∃ z, z = k_up m1 31 0 (upd (m1 31 0) (3 * i3 + k) ((m1 31 0 (3 * i3 + k)) ||| (m1 31 0 (3 * i5 + k)))) := ⟨_, rfl⟩
                              rw [← eI58] at hW
                              have hs58 : m_S mA mK E I58 := by rw [eI58]; exact hs_217.up 31 _ _ (by decide)
                              refine lv_iinc (v := nI (k + 1)) (lv' := [(4, .int (nI (k + 1))), (0, .ref (ad 13 0)), (1, .int (nI i3)), (2, .int (nI i5))]) hx hb dX5_melt_248 hl (k := 0) rfl (nI_1 k) (by decide) rfl (fun ls hl => ?_)
                              refine lv_goto (tgt := 217) hx hb dX5_melt_251 (by decide) ?_
                              exact ih217 (k + 1) I58 (by omega) (by subst eI58; first | exact hz217 | (rw [← hz217]; simp [kLoop, mw, c_1, hk3, c_4, hk5, c_7, c_8, c_9, c_10, c_11, c_27, c_43, c_46, ← hz25]; done) | (rw [← hz217]; simp [kLoop, mw, c_1, hk3, c_4, hk5, c_7, c_8, c_9, c_10, c_11, c_27, c_43, c_46, ← hz25]; rfl)) hs58 _ _ hW hS ls (lv_sub hl [0, 1, 2, 3] rfl)
                          exact loop217 3 0 I54 (by omega) rfl hs54 _ _ hW hS ls (lv_sub hl [0, 2, 3, 4] rfl)
                      · skip
                        refine lv_sipush (v := (-1003)) hx hb dX5_melt_129 (by decide) ?_
                        exact w_iret X hr hlk hS (by first | rfl | (simp [mcMelt, mMay, mMe, mMe1, mMe2, mMe3, mMeJ, mw, mwJ, c_1, hk3, c_4, hk5, c_7, c_8, c_9, c_10, c_11, c_27, c_43, ← hz25]; done) | (simp [mcMelt, mMay, mMe, mMe1, mMe2, mMe3, mMeJ, mw, mwJ, c_1, hk3, c_4, hk5, c_7, c_8, c_9, c_10, c_11, c_27, c_43, ← hz25]; rfl)) (hW.to (by first | rfl | (simp [mcMelt, mMay, mMe, mMe1, mMe2, mMe3, mMeJ, mw, mwJ, c_1, hk3, c_4, hk5, c_7, c_8, c_9, c_10, c_11, c_27, c_43, ← hz25]; done)) (by first | rfl | (simp [mcMelt, mMay, mMe, mMe1, mMe2, mMe3, mMeJ, mw, mwJ, c_1, hk3, c_4, hk5, c_7, c_8, c_9, c_10, c_11, c_27, c_43, ← hz25]; done))) dX5_melt_132
        | succ d ih =>
          intro k n hi25 hz25  H locs hW hS ls hl
          have hlt25 : k < 3 := by omega
          have ih25 := ih
          refine lv_iload hx hb dX5_melt_25 (lv_at hl 0 rfl) ?_
          refine lv_iconst (v := 3) hx hb dX5_melt_27 (by decide) ?_
          refine lv_icmp_ge (tgt := 70) hx hb dX5_melt_28 (by decide) (fun c_59 => absurd c_59 (nI_ge (a := k) (b := 3) (by omega) (by omega))) (fun _ => ?_)
          refine lv_iload_n hx hb dX5_melt_31 rfl (lv_at hl 1 rfl) ?_
          refine lv_aload_n hx hb dX5_melt_32 rfl (lv_at hl 2 rfl) ?_
          refine w_get X hW 13 0 Nat.zero_lt_one rfl rfl inG5 11 (by decide) g509 rfl dX5_melt_33 ?_
          refine lv_iconst (v := 3) hx hb dX5_melt_36 (by decide) ?_
          refine lv_iload_n hx hb dX5_melt_37 rfl (lv_at hl 3 rfl) ?_
          refine lw_imulN (a := 3) (b := i3) hx hb dX5_melt_38 ?_
          refine lv_iload hx hb dX5_melt_39 (lv_at hl 0 rfl) ?_
          refine lw_iaddN (a := 3 * i3) (b := k) hx hb dX5_melt_41 ?_
          refine w_ialdN (i := 3 * i3 + k) X hW 31 0 Nat.zero_lt_one rfl (by omega) dX5_melt_42 ?_
          refine lv_aload_n hx hb dX5_melt_43 rfl (lv_at hl 2 rfl) ?_
          refine w_get X hW 13 0 Nat.zero_lt_one rfl rfl inG5 11 (by decide) g509 rfl dX5_melt_44 ?_
          refine lv_iconst (v := 3) hx hb dX5_melt_47 (by decide) ?_
          refine lv_iload_n hx hb dX5_melt_48 rfl (lv_at hl 4 rfl) ?_
          refine lw_imulN (a := 3) (b := i5) hx hb dX5_melt_49 ?_
          refine lv_iload hx hb dX5_melt_50 (lv_at hl 0 rfl) ?_
          refine lw_iaddN (a := 3 * i5) (b := k) hx hb dX5_melt_52 ?_
          refine w_ialdN (i := 3 * i5 + k) X hW 31 0 Nat.zero_lt_one rfl (by omega) dX5_melt_53 ?_
          refine lv_icmp_ne (tgt := 61) hx hb dX5_melt_54 (by decide) (fun c_60 => ?_) (fun c_60 => ?_)
          · skip
            refine lv_iconst (v := 0) hx hb dX5_melt_61 (by decide) ?_
            refine lv_iadd hx hb dX5_melt_62 ?_
            refine lv_istore_n (lv' := [(3, .int (n + 0)), (4, .int (nI k)), (0, .ref (ad 13 0)), (1, .int (nI i3)), (2, .int (nI i5))]) hx hb dX5_melt_63 rfl hl (by decide) rfl (fun ls hl => ?_)
            refine lv_iinc (v := nI (k + 1)) (lv' := [(4, .int (nI (k + 1))), (3, .int (n + 0)), (0, .ref (ad 13 0)), (1, .int (nI i3)), (2, .int (nI i5))]) hx hb dX5_melt_64 hl (k := 1) rfl (nI_1 k) (by decide) rfl (fun ls hl => ?_)
            refine lv_goto (tgt := 25) hx hb dX5_melt_67 (by decide) ?_
            exact ih25 (k + 1) (n + 0) (by omega) (by first | exact hz25 | (rw [← hz25]; simp [kLoop, mw, c_1, hk3, c_4, hk5, c_60]; done) | (simp [← hz25, kLoop, mw, c_1, hk3, c_4, hk5, c_60]; done) | (rw [← hz25]; simp only [kLoop, mw, c_1, hk3, c_4, hk5, c_60, eq_self, if_true, if_false, Bool.false_eq_true, decide_true, decide_false, Bool.not_true, Bool.not_false, Bool.false_or, Bool.true_or, Bool.and_true, Bool.true_and, Bool.false_and, Bool.and_false, Bool.or_true, Bool.or_false]; done)) _ _ hW hS ls (lv_sub hl [0, 1, 2, 3, 4] rfl)
          · skip
            refine lv_iconst (v := 1) hx hb dX5_melt_57 (by decide) ?_
            refine lv_goto (tgt := 62) hx hb dX5_melt_58 (by decide) ?_
            refine lv_iadd hx hb dX5_melt_62 ?_
            refine lv_istore_n (lv' := [(3, .int (n + 1)), (4, .int (nI k)), (0, .ref (ad 13 0)), (1, .int (nI i3)), (2, .int (nI i5))]) hx hb dX5_melt_63 rfl hl (by decide) rfl (fun ls hl => ?_)
            refine lv_iinc (v := nI (k + 1)) (lv' := [(4, .int (nI (k + 1))), (3, .int (n + 1)), (0, .ref (ad 13 0)), (1, .int (nI i3)), (2, .int (nI i5))]) hx hb dX5_melt_64 hl (k := 1) rfl (nI_1 k) (by decide) rfl (fun ls hl => ?_)
            refine lv_goto (tgt := 25) hx hb dX5_melt_67 (by decide) ?_
            exact ih25 (k + 1) (n + 1) (by omega) (by first | exact hz25 | (rw [← hz25]; simp [kLoop, mw, c_1, hk3, c_4, hk5, c_60]; done) | (simp [← hz25, kLoop, mw, c_1, hk3, c_4, hk5, c_60]; done) | (rw [← hz25]; simp only [kLoop, mw, c_1, hk3, c_4, hk5, c_60, eq_self, if_true, if_false, Bool.false_eq_true, decide_true, decide_false, Bool.not_true, Bool.not_false, Bool.false_or, Bool.true_or, Bool.and_true, Bool.true_and, Bool.false_and, Bool.and_false, Bool.or_true, Bool.or_false]; done)) _ _ hW hS ls (lv_sub hl [0, 1, 2, 3, 4] rfl)
      exact loop25 3 0 0 (by omega) rfl _ _ hW hS ls (lv_sub hl [0, 1, 2, 3, 4] rfl)
    · skip
      have hk61 : kAns mA b = none := mIs_none (by omega) c_4
      refine lv_sipush (v := (-1001)) hx hb dX5_melt_16 (by decide) ?_
      exact w_iret X hr hlk hS (by first | rfl | (simp [mcMelt, mMay, mMe, mMe1, mMe2, mMe3, mMeJ, mw, mwJ, c_1, hk3, c_4, hk61]; done) | (simp [mcMelt, mMay, mMe, mMe1, mMe2, mMe3, mMeJ, mw, mwJ, c_1, hk3, c_4, hk61]; rfl)) (hW.to (by first | rfl | (simp [mcMelt, mMay, mMe, mMe1, mMe2, mMe3, mMeJ, mw, mwJ, c_1, hk3, c_4, hk61]; done)) (by first | rfl | (simp [mcMelt, mMay, mMe, mMe1, mMe2, mMe3, mMeJ, mw, mwJ, c_1, hk3, c_4, hk61]; done))) dX5_melt_19
set_option maxHeartbeats 4000000 in
set_option maxRecDepth 100000 in
theorem m_X5_vote (l : Launch) (G : k_G) (ad : Nat → Nat → Nat) (nA nK : Nat) (mA mK : Nat) (E : Nat → Nat) (I : k_I) (J : k_J) (a : Int32) (up : Bool) (hs : m_S mA mK E I) : k_Met l yX5_vote cX5_vote 3 (some FieldType.int) { frames := 2, cells := 0, slots := 0, locals := 46 } G [.ref (ad 13 0), .int a, .int (k_b up)] (Wd G ad nA nK I J) (some (.int ((mcVote mA a up (I, J)).1))) (Wd G ad nA nK ((mcVote mA a up (I, J)).2.1) ((mcVote mA a up (I, J)).2.2)) 0 0 := by
  refine k_body (by decide) (Nat.le_of_ble_eq_true rfl) ?_
  intro p e s m below meth c ls X hr hlk hnm hW hS hl
  have hx := X.1.1
  have hb := X.1.2.1
  have hG := X.1.2.2.2.2
  have hA24 := hs.2.2.1
  have hK30 := hs.2.2.2.1
  have hl : lv_has ls 3 [(0, .ref (ad 13 0)), (1, .int a), (2, .int (k_b up))] := hl
  refine lv_aload_n hx hb dX5_vote_0 rfl (lv_at hl 0 rfl) ?_
  refine lv_iload_n hx hb dX5_vote_1 rfl (lv_at hl 1 rfl) ?_
  refine w_cV1 X hS (m_X5_is l G ad nA nK mA mK E I J a hs) rfl rfl g615 g4 g612 g614 p30 hd_X5_is ⟨Nat.le_of_ble_eq_true rfl, Nat.le_of_ble_eq_true rfl⟩ (k_rec X hW 13 0 Nat.zero_lt_one rfl rfl) hW hl.1 rfl (Nat.le_of_ble_eq_true rfl) dX5_vote_2 (Nat.zero_le _) (Nat.zero_le _) (fun H locs hW hS => ?_)
  refine lb_if_ne (tgt := 12) hx hb dX5_vote_5 (by decide) (fun c_1 => ?_) (fun c_1 => ?_)
  · skip
    obtain ⟨i2, hi2, rfl⟩ := mIs_nat (by omega) c_1
    have hk2 : kAns mA (nI i2) = some i2 := kAns_lt hi2 (by omega)
    have hl : lv_has ls 3 [(0, .ref (ad 13 0)), (1, .int (nI i2)), (2, .int (k_b up))] := hl
    refine lv_aload_n hx hb dX5_vote_12 rfl (lv_at hl 0 rfl) ?_
    refine w_get X hW 13 0 Nat.zero_lt_one rfl rfl inG5 8 (by decide) g506 rfl dX5_vote_13 ?_
    refine lv_iload_n hx hb dX5_vote_16 rfl (lv_at hl 1 rfl) ?_
    refine w_ialdN (i := i2) X hW 28 0 Nat.zero_lt_one rfl (by omega) dX5_vote_17 ?_
    refine lv_if_lt (tgt := 25) hx hb dX5_vote_18 (by decide) (fun c_3 => ?_) (fun c_3 => ?_)
    · skip
      refine lv_aload_n hx hb dX5_vote_25 rfl (lv_at hl 0 rfl) ?_
      refine w_get X hW 13 0 Nat.zero_lt_one rfl rfl inG5 14 (by decide) g512 rfl dX5_vote_26 ?_
      refine lv_iload_n hx hb dX5_vote_29 rfl (lv_at hl 1 rfl) ?_
      refine lv_dup2_11 hx hb dX5_vote_30 rfl rfl ?_
      refine w_ialdN (i := i2) X hW 34 0 Nat.zero_lt_one rfl (by omega) dX5_vote_31 ?_
      refine lv_iload_n hx hb dX5_vote_32 rfl (lv_at hl 2 rfl) ?_
      refine lb_if_eq (tgt := 40) hx hb dX5_vote_33 (by decide) (fun c_4 => ?_) (fun c_4 => ?_)
      · skip
        refine lv_iconst (v := (-1)) hx hb dX5_vote_40 (by decide) ?_
        refine lv_iadd hx hb dX5_vote_41 ?_
        refine w_iastN (i := i2) X hW hS 34 0 Nat.zero_lt_one rfl (by omega) rfl dX5_vote_42 (fun H locs hW hS => ?_)
        obtain ⟨I5, eI5⟩ : ∃ z, z = k_up I 34 0 (upd (I 34 0) i2 ((I 34 0 i2) + (-1))) := ⟨_, rfl⟩
        rw [← eI5] at hW
        have hs5 : m_S mA mK E I5 := by rw [eI5]; exact hs.up 34 _ _ (by decide)
        refine lv_aload_n hx hb dX5_vote_43 rfl (lv_at hl 0 rfl) ?_
        refine w_get X hW 13 0 Nat.zero_lt_one rfl rfl inG5 14 (by decide) g512 rfl dX5_vote_44 ?_
        refine lv_iload_n hx hb dX5_vote_47 rfl (lv_at hl 1 rfl) ?_
        refine w_ialdN (i := i2) X hW 34 0 Nat.zero_lt_one rfl (by omega) dX5_vote_48 ?_
        exact w_iret X hr hlk hS (by first | rfl | (simp [mcVote, mw, k_up_s, upd_s, c_1, hk2, c_3, c_4, eI5]; done) | (subst eI5; simp [mcVote, mw, k_up_s, upd_s, c_1, hk2, c_3, c_4]; done) | (simp [mcVote, mw, k_up_s, upd_s, c_1, hk2, c_3, c_4, eI5]; rfl)) (hW.to (by first | rfl | (subst eI5; simp [mcVote, mw, k_up_s, upd_s, c_1, hk2, c_3, c_4]; done) | (subst eI5; rfl) | (subst eI5; simp [mcVote, mw, k_up_s, upd_s, c_1, hk2, c_3, c_4]; done) | (subst eI5; simp [mcVote, mw, k_up_s, upd_s, c_1, hk2, c_3, c_4]; rfl) | (simp [mcVote, mw, k_up_s, upd_s, c_1, hk2, c_3, c_4, eI5]; done)) (by first | rfl | (subst eI5; simp [mcVote, mw, k_up_s, upd_s, c_1, hk2, c_3, c_4]; done) | (subst eI5; rfl) | (subst eI5; simp [mcVote, mw, k_up_s, upd_s, c_1, hk2, c_3, c_4]; done) | (subst eI5; simp [mcVote, mw, k_up_s, upd_s, c_1, hk2, c_3, c_4]; rfl) | (simp [mcVote, mw, k_up_s, upd_s, c_1, hk2, c_3, c_4, eI5]; done))) dX5_vote_49
      · skip
        refine lv_iconst (v := 1) hx hb dX5_vote_36 (by decide) ?_
        refine lv_goto (tgt := 41) hx hb dX5_vote_37 (by decide) ?_
        refine lv_iadd hx hb dX5_vote_41 ?_
        refine w_iastN (i := i2) X hW hS 34 0 Nat.zero_lt_one rfl (by omega) rfl dX5_vote_42 (fun H locs hW hS => ?_)
        obtain ⟨I6, eI6⟩ : ∃ z, z = k_up I 34 0 (upd (I 34 0) i2 ((I 34 0 i2) + 1)) := ⟨_, rfl⟩
        rw [← eI6] at hW
        have hs6 : m_S mA mK E I6 := by rw [eI6]; exact hs.up 34 _ _ (by decide)
        refine lv_aload_n hx hb dX5_vote_43 rfl (lv_at hl 0 rfl) ?_
        refine w_get X hW 13 0 Nat.zero_lt_one rfl rfl inG5 14 (by decide) g512 rfl dX5_vote_44 ?_
        refine lv_iload_n hx hb dX5_vote_47 rfl (lv_at hl 1 rfl) ?_
        refine w_ialdN (i := i2) X hW 34 0 Nat.zero_lt_one rfl (by omega) dX5_vote_48 ?_
        exact w_iret X hr hlk hS (by first | rfl | (simp [mcVote, mw, k_up_s, upd_s, c_1, hk2, c_3, c_4, eI6]; done) | (subst eI6; simp [mcVote, mw, k_up_s, upd_s, c_1, hk2, c_3, c_4]; done) | (simp [mcVote, mw, k_up_s, upd_s, c_1, hk2, c_3, c_4, eI6]; rfl)) (hW.to (by first | rfl | (subst eI6; simp [mcVote, mw, k_up_s, upd_s, c_1, hk2, c_3, c_4]; done) | (subst eI6; rfl) | (subst eI6; simp [mcVote, mw, k_up_s, upd_s, c_1, hk2, c_3, c_4]; done) | (subst eI6; simp [mcVote, mw, k_up_s, upd_s, c_1, hk2, c_3, c_4]; rfl) | (simp [mcVote, mw, k_up_s, upd_s, c_1, hk2, c_3, c_4, eI6]; done)) (by first | rfl | (subst eI6; simp [mcVote, mw, k_up_s, upd_s, c_1, hk2, c_3, c_4]; done) | (subst eI6; rfl) | (subst eI6; simp [mcVote, mw, k_up_s, upd_s, c_1, hk2, c_3, c_4]; done) | (subst eI6; simp [mcVote, mw, k_up_s, upd_s, c_1, hk2, c_3, c_4]; rfl) | (simp [mcVote, mw, k_up_s, upd_s, c_1, hk2, c_3, c_4, eI6]; done))) dX5_vote_49
    · skip
      refine lv_sipush (v := (-1003)) hx hb dX5_vote_21 (by decide) ?_
      exact w_iret X hr hlk hS (by first | rfl | (simp [mcVote, mw, k_up_s, upd_s, c_1, hk2, c_3]; done) | (simp [mcVote, mw, k_up_s, upd_s, c_1, hk2, c_3]; rfl)) (hW.to (by first | rfl | (simp [mcVote, mw, k_up_s, upd_s, c_1, hk2, c_3]; done)) (by first | rfl | (simp [mcVote, mw, k_up_s, upd_s, c_1, hk2, c_3]; done))) dX5_vote_24
  · skip
    have hk7 : kAns mA a = none := mIs_none (by omega) c_1
    refine lv_sipush (v := (-1001)) hx hb dX5_vote_8 (by decide) ?_
    exact w_iret X hr hlk hS (by first | rfl | (simp [mcVote, mw, k_up_s, upd_s, c_1, hk7]; done) | (simp [mcVote, mw, k_up_s, upd_s, c_1, hk7]; rfl)) (hW.to (by first | rfl | (simp [mcVote, mw, k_up_s, upd_s, c_1, hk7]; done)) (by first | rfl | (simp [mcVote, mw, k_up_s, upd_s, c_1, hk7]; done))) dX5_vote_11
set_option maxHeartbeats 4000000 in
set_option maxRecDepth 100000 in
theorem m_X5_told (l : Launch) (G : k_G) (ad : Nat → Nat → Nat) (nA nK : Nat) (mA mK : Nat) (E : Nat → Nat) (I : k_I) (J : k_J) (a : Int32) (w : Int32) (hs : m_S mA mK E I) : k_Met l yX5_told cX5_told 4 (some FieldType.int) { frames := 3, cells := 0, slots := 0, locals := 69 } G [.ref (ad 13 0), .int a, .int w] (Wd G ad nA nK I J) (some (.int ((mcTold E mA a w (I, J)).1))) (Wd G ad nA nK ((mcTold E mA a w (I, J)).2.1) ((mcTold E mA a w (I, J)).2.2)) 0 0 := by
  refine k_body (by decide) (Nat.le_of_ble_eq_true rfl) ?_
  intro p e s m below meth c ls X hr hlk hnm hW hS hl
  have hx := X.1.1
  have hb := X.1.2.1
  have hG := X.1.2.2.2.2
  have hA24 := hs.2.2.1
  have hK30 := hs.2.2.2.1
  have hl : lv_has ls 4 [(0, .ref (ad 13 0)), (1, .int a), (2, .int w)] := hl
  refine lv_aload_n hx hb dX5_told_0 rfl (lv_at hl 0 rfl) ?_
  refine lv_iload_n hx hb dX5_told_1 rfl (lv_at hl 1 rfl) ?_
  refine w_cV1 X hS (m_X5_is l G ad nA nK mA mK E I J a hs) rfl rfl g615 g4 g612 g614 p30 hd_X5_is ⟨Nat.le_of_ble_eq_true rfl, Nat.le_of_ble_eq_true rfl⟩ (k_rec X hW 13 0 Nat.zero_lt_one rfl rfl) hW hl.1 rfl (Nat.le_of_ble_eq_true rfl) dX5_told_2 (Nat.zero_le _) (Nat.zero_le _) (fun H locs hW hS => ?_)
  refine lb_if_ne (tgt := 12) hx hb dX5_told_5 (by decide) (fun c_1 => ?_) (fun c_1 => ?_)
  · skip
    obtain ⟨i2, hi2, rfl⟩ := mIs_nat (by omega) c_1
    have hk2 : kAns mA (nI i2) = some i2 := kAns_lt hi2 (by omega)
    have hl : lv_has ls 4 [(0, .ref (ad 13 0)), (1, .int (nI i2)), (2, .int w)] := hl
    refine lv_iload_n hx hb dX5_told_12 rfl (lv_at hl 2 rfl) ?_
    refine lv_i2l (v := Int32.toInt64 w) hx hb dX5_told_13 rfl ?_
    refine lv_lconst (v := 0) hx hb dX5_told_14 (by decide) ?_
    refine lv_ldc2 hx hb X.1.2.2.2.1 (hG _ g671) dX5_told_15 ?_
    refine w_cS1 X hS (m_X5_in l G (Wd G ad nA nK I J) (Int32.toInt64 w) 0 13 ) rfl rfl g583 g4 g581 g582 hd_X5_in ⟨Nat.le_of_ble_eq_true rfl, Nat.le_of_ble_eq_true rfl⟩ hW hl.1 rfl (Nat.le_of_ble_eq_true rfl) dX5_told_18 (Nat.zero_le _) (Nat.zero_le _) (fun H locs hW hS => ?_)
    refine lb_if_ne (tgt := 28) hx hb dX5_told_21 (by decide) (fun c_3 => ?_) (fun c_3 => ?_)
    · skip
      have c_in := c_3
      refine lv_aload_n hx hb dX5_told_28 rfl (lv_at hl 0 rfl) ?_
      refine w_cVv X hS (m_X5_work l G ad nA nK mA mK E I J  hs) rfl rfl g631 g4 g628 g630 p32 hd_X5_work ⟨Nat.le_of_ble_eq_true rfl, Nat.le_of_ble_eq_true rfl⟩ (k_rec X hW 13 0 Nat.zero_lt_one rfl rfl) hW hl.1 rfl (Nat.le_of_ble_eq_true rfl) dX5_told_29 (Nat.zero_le _) (Nat.zero_le _) (fun H locs hW hS => ?_)
      obtain ⟨I4, eI4⟩ : ∃ z, z = (mWork E mA (I, J)).1 := ⟨_, rfl⟩
      rw [← eI4] at hW
      have hs4 : m_S mA mK E I4 := by rw [eI4]; exact (mWork_S (s := (I, J)) hs)
      obtain ⟨J4, eJ4⟩ : ∃ z, z = (mWork E mA (I, J)).2 := ⟨_, rfl⟩
      rw [← eJ4] at hW
      refine lv_aload_n hx hb dX5_told_32 rfl (lv_at hl 0 rfl) ?_
      refine w_get X hW 13 0 Nat.zero_lt_one rfl rfl inG5 8 (by decide) g506 rfl dX5_told_33 ?_
      refine lv_iload_n hx hb dX5_told_36 rfl (lv_at hl 1 rfl) ?_
      refine w_ialdN (i := i2) X hW 28 0 Nat.zero_lt_one rfl (by omega) dX5_told_37 ?_
      refine lv_if_lt (tgt := 45) hx hb dX5_told_38 (by decide) (fun c_5 => ?_) (fun c_5 => ?_)
      · skip
        refine lv_iconst (v := 0) hx hb dX5_told_45 (by decide) ?_
        refine lv_istore_n (lv' := [(3, .int 0), (0, .ref (ad 13 0)), (1, .int (nI i2)), (2, .int w)]) hx hb dX5_told_46 rfl hl (by decide) rfl (fun ls hl => ?_)
        refine lv_iload_n hx hb dX5_told_47 rfl (lv_at hl 3 rfl) ?_
        rcases k_sw0_9 w with c_6 | c_6 | c_6 | c_6 | c_6 | c_6 | c_6 | c_6 | c_6 | c_6 | c_6
        · skip
          subst c_6
          refine lv_tableIn (tgt := 104) hx hb dX5_told_48 (by decide) (by decide) rfl (by decide) ?_
          refine lv_iload_n hx hb dX5_told_104 rfl (lv_at hl 0 rfl) ?_
          refine lv_if_eq (tgt := 112) hx hb dX5_told_105 (by decide) (fun _ => ?_) (fun c_7 => absurd (by decide) c_7)
          refine lv_aload_n hx hb dX5_told_112 rfl (lv_at hl 1 rfl) ?_
          refine w_get X hW 13 0 Nat.zero_lt_one rfl rfl inG5 7 (by decide) g505 rfl dX5_told_113 ?_
          refine lv_iload_n hx hb dX5_told_116 rfl (lv_at hl 2 rfl) ?_
          refine w_ialdN (i := i2) X hW 27 0 Nat.zero_lt_one rfl (by omega) dX5_told_117 ?_
          exact w_iret X hr hlk hS (by subst eJ4 eI4; first | (simp [mcTold, mToldV, mPartE, mIn, c_1, hk2, c_5]; done) | (simp [mcTold, mToldV, mPartE, mIn, c_1, hk2, c_5]; rfl)) (hW.to (by subst eJ4 eI4; simp [mcTold, mIn, c_1, hk2, c_5]) (by subst eJ4 eI4; simp [mcTold, mIn, c_1, hk2, c_5])) dX5_told_118
        · skip
          subst c_6
          refine lv_tableIn (tgt := 119) hx hb dX5_told_48 (by decide) (by decide) rfl (by decide) ?_
          refine lv_aload_n hx hb dX5_told_119 rfl (lv_at hl 1 rfl) ?_
          refine lv_iload_n hx hb dX5_told_120 rfl (lv_at hl 2 rfl) ?_
          refine w_cV1 X hS (m_X5_endOf l G ad nA nK mA mK E I4 J4 i2 hs4 (by omega)) rfl rfl g643 g4 g640 g642 p35 hd_X5_endOf ⟨Nat.le_of_ble_eq_true rfl, Nat.le_of_ble_eq_true rfl⟩ (k_rec X hW 13 0 Nat.zero_lt_one rfl rfl) hW hl.1 rfl (Nat.le_of_ble_eq_true rfl) dX5_told_121 (Nat.zero_le _) (Nat.zero_le _) (fun H locs hW hS => ?_)
          have hE8 : E i2 < mA := (hs4.2.2.2.2.1 i2 (by omega)).1
          exact w_iret X hr hlk hS (by subst eJ4 eI4; first | (simp [mcTold, mToldV, mPartE, mIn, c_1, hk2, c_5]; done) | (simp [mcTold, mToldV, mPartE, mIn, c_1, hk2, c_5]; rfl)) (hW.to (by subst eJ4 eI4; simp [mcTold, mIn, c_1, hk2, c_5]) (by subst eJ4 eI4; simp [mcTold, mIn, c_1, hk2, c_5])) dX5_told_124
        · skip
          subst c_6
          refine lv_tableIn (tgt := 125) hx hb dX5_told_48 (by decide) (by decide) rfl (by decide) ?_
          refine lv_aload_n hx hb dX5_told_125 rfl (lv_at hl 1 rfl) ?_
          refine w_get X hW 13 0 Nat.zero_lt_one rfl rfl inG5 10 (by decide) g508 rfl dX5_told_126 ?_
          refine lv_iload_n hx hb dX5_told_129 rfl (lv_at hl 2 rfl) ?_
          refine w_ialdN (i := i2) X hW 30 0 Nat.zero_lt_one rfl (by omega) dX5_told_130 ?_
          exact w_iret X hr hlk hS (by subst eJ4 eI4; first | (simp [mcTold, mToldV, mPartE, mIn, c_1, hk2, c_5]; done) | (simp [mcTold, mToldV, mPartE, mIn, c_1, hk2, c_5]; rfl)) (hW.to (by subst eJ4 eI4; simp [mcTold, mIn, c_1, hk2, c_5]) (by subst eJ4 eI4; simp [mcTold, mIn, c_1, hk2, c_5])) dX5_told_131
        · skip
          subst c_6
          refine lv_tableIn (tgt := 132) hx hb dX5_told_48 (by decide) (by decide) rfl (by decide) ?_
          refine lv_aload_n hx hb dX5_told_132 rfl (lv_at hl 1 rfl) ?_
          refine w_get X hW 13 0 Nat.zero_lt_one rfl rfl inG5 21 (by decide) g519 rfl dX5_told_133 ?_
          refine lv_iconst (v := 3) hx hb dX5_told_136 (by decide) ?_
          refine lv_iload_n hx hb dX5_told_137 rfl (lv_at hl 2 rfl) ?_
          refine lw_imulN (a := 3) (b := i2) hx hb dX5_told_138 ?_
          refine lv_iload_n hx hb dX5_told_139 rfl (lv_at hl 3 rfl) ?_
          refine lw_iaddN (a := 3 * i2) (b := 3) hx hb dX5_told_140 ?_
          refine lv_iconst (v := 3) hx hb dX5_told_141 (by decide) ?_
          refine lw_isubN (a := 3 * i2 + 3) (b := 3) (by omega) hx hb dX5_told_142 ?_
          refine w_ialdN (i := 3 * i2 + 3 - 3) X hW 41 0 Nat.zero_lt_one rfl (by omega) dX5_told_143 ?_
          exact w_iret X hr hlk hS (by subst eJ4 eI4; first | (simp [mcTold, mToldV, mPartE, mIn, c_1, hk2, c_5]; done) | (simp [mcTold, mToldV, mPartE, mIn, c_1, hk2, c_5]; rfl)) (hW.to (by subst eJ4 eI4; simp [mcTold, mIn, c_1, hk2, c_5]) (by subst eJ4 eI4; simp [mcTold, mIn, c_1, hk2, c_5])) dX5_told_144
        · skip
          subst c_6
          refine lv_tableIn (tgt := 132) hx hb dX5_told_48 (by decide) (by decide) rfl (by decide) ?_
          refine lv_aload_n hx hb dX5_told_132 rfl (lv_at hl 1 rfl) ?_
          refine w_get X hW 13 0 Nat.zero_lt_one rfl rfl inG5 21 (by decide) g519 rfl dX5_told_133 ?_
          refine lv_iconst (v := 3) hx hb dX5_told_136 (by decide) ?_
          refine lv_iload_n hx hb dX5_told_137 rfl (lv_at hl 2 rfl) ?_
          refine lw_imulN (a := 3) (b := i2) hx hb dX5_told_138 ?_
          refine lv_iload_n hx hb dX5_told_139 rfl (lv_at hl 3 rfl) ?_
          refine lw_iaddN (a := 3 * i2) (b := 4) hx hb dX5_told_140 ?_
          refine lv_iconst (v := 3) hx hb dX5_told_141 (by decide) ?_
          refine lw_isubN (a := 3 * i2 + 4) (b := 3) (by omega) hx hb dX5_told_142 ?_
          refine w_ialdN (i := 3 * i2 + 4 - 3) X hW 41 0 Nat.zero_lt_one rfl (by omega) dX5_told_143 ?_
          exact w_iret X hr hlk hS (by subst eJ4 eI4; first | (simp [mcTold, mToldV, mPartE, mIn, c_1, hk2, c_5]; done) | (simp [mcTold, mToldV, mPartE, mIn, c_1, hk2, c_5]; rfl)) (hW.to (by subst eJ4 eI4; simp [mcTold, mIn, c_1, hk2, c_5]) (by subst eJ4 eI4; simp [mcTold, mIn, c_1, hk2, c_5])) dX5_told_144
        · skip
          subst c_6
          refine lv_tableIn (tgt := 132) hx hb dX5_told_48 (by decide) (by decide) rfl (by decide) ?_
          refine lv_aload_n hx hb dX5_told_132 rfl (lv_at hl 1 rfl) ?_
          refine w_get X hW 13 0 Nat.zero_lt_one rfl rfl inG5 21 (by decide) g519 rfl dX5_told_133 ?_
          refine lv_iconst (v := 3) hx hb dX5_told_136 (by decide) ?_
          refine lv_iload_n hx hb dX5_told_137 rfl (lv_at hl 2 rfl) ?_
          refine lw_imulN (a := 3) (b := i2) hx hb dX5_told_138 ?_
          refine lv_iload_n hx hb dX5_told_139 rfl (lv_at hl 3 rfl) ?_
          refine lw_iaddN (a := 3 * i2) (b := 5) hx hb dX5_told_140 ?_
          refine lv_iconst (v := 3) hx hb dX5_told_141 (by decide) ?_
          refine lw_isubN (a := 3 * i2 + 5) (b := 3) (by omega) hx hb dX5_told_142 ?_
          refine w_ialdN (i := 3 * i2 + 5 - 3) X hW 41 0 Nat.zero_lt_one rfl (by omega) dX5_told_143 ?_
          exact w_iret X hr hlk hS (by subst eJ4 eI4; first | (simp [mcTold, mToldV, mPartE, mIn, c_1, hk2, c_5]; done) | (simp [mcTold, mToldV, mPartE, mIn, c_1, hk2, c_5]; rfl)) (hW.to (by subst eJ4 eI4; simp [mcTold, mIn, c_1, hk2, c_5]) (by subst eJ4 eI4; simp [mcTold, mIn, c_1, hk2, c_5])) dX5_told_144
        · skip
          subst c_6
          refine lv_tableIn (tgt := 145) hx hb dX5_told_48 (by decide) (by decide) rfl (by decide) ?_
          refine lv_aload_n hx hb dX5_told_145 rfl (lv_at hl 1 rfl) ?_
          refine w_get X hW 13 0 Nat.zero_lt_one rfl rfl inG5 22 (by decide) g520 rfl dX5_told_146 ?_
          refine lv_iload_n hx hb dX5_told_149 rfl (lv_at hl 2 rfl) ?_
          refine w_ialdN (i := i2) X hW 42 0 Nat.zero_lt_one rfl (by omega) dX5_told_150 ?_
          exact w_iret X hr hlk hS (by subst eJ4 eI4; first | (simp [mcTold, mToldV, mPartE, mIn, c_1, hk2, c_5]; done) | (simp [mcTold, mToldV, mPartE, mIn, c_1, hk2, c_5]; rfl)) (hW.to (by subst eJ4 eI4; simp [mcTold, mIn, c_1, hk2, c_5]) (by subst eJ4 eI4; simp [mcTold, mIn, c_1, hk2, c_5])) dX5_told_151
        · skip
          subst c_6
          refine lv_tableIn (tgt := 152) hx hb dX5_told_48 (by decide) (by decide) rfl (by decide) ?_
          refine lv_iload_n hx hb dX5_told_152 rfl (lv_at hl 0 rfl) ?_
          refine lv_if_ne (tgt := 169) hx hb dX5_told_153 (by decide) (fun c_9 => absurd (by decide) c_9) (fun _ => ?_)
          refine lv_aload_n hx hb dX5_told_156 rfl (lv_at hl 1 rfl) ?_
          refine w_get X hW 13 0 Nat.zero_lt_one rfl rfl inG5 23 (by decide) g521 rfl dX5_told_157 ?_
          refine lv_iload_n hx hb dX5_told_160 rfl (lv_at hl 2 rfl) ?_
          refine w_zaldN (i := i2) X hW 43 0 Nat.zero_lt_one rfl (by omega) dX5_told_161 ?_
          refine lv_if_eq (tgt := 169) hx hb dX5_told_162 (by decide) (fun c_10 => ?_) (fun c_10 => ?_)
          · skip
            refine lv_iconst (v := 0) hx hb dX5_told_169 (by decide) ?_
            exact w_iret X hr hlk hS (by subst eJ4 eI4; first | (simp [mcTold, mToldV, mPartE, mIn, c_1, hk2, c_5, c_10]; done) | (simp [mcTold, mToldV, mPartE, mIn, c_1, hk2, c_5, c_10]; rfl)) (hW.to (by subst eJ4 eI4; simp [mcTold, mIn, c_1, hk2, c_5, c_10]) (by subst eJ4 eI4; simp [mcTold, mIn, c_1, hk2, c_5, c_10])) dX5_told_170
          · skip
            refine lv_iconst (v := 1) hx hb dX5_told_165 (by decide) ?_
            refine lv_goto (tgt := 170) hx hb dX5_told_166 (by decide) ?_
            exact w_iret X hr hlk hS (by subst eJ4 eI4; first | (simp [mcTold, mToldV, mPartE, mIn, c_1, hk2, c_5, c_10]; done) | (simp [mcTold, mToldV, mPartE, mIn, c_1, hk2, c_5, c_10]; rfl)) (hW.to (by subst eJ4 eI4; simp [mcTold, mIn, c_1, hk2, c_5, c_10]) (by subst eJ4 eI4; simp [mcTold, mIn, c_1, hk2, c_5, c_10])) dX5_told_170
        · skip
          subst c_6
          refine lv_tableIn (tgt := 171) hx hb dX5_told_48 (by decide) (by decide) rfl (by decide) ?_
          refine lv_aload_n hx hb dX5_told_171 rfl (lv_at hl 1 rfl) ?_
          refine w_get X hW 13 0 Nat.zero_lt_one rfl rfl inG5 14 (by decide) g512 rfl dX5_told_172 ?_
          refine lv_iload_n hx hb dX5_told_175 rfl (lv_at hl 2 rfl) ?_
          refine w_ialdN (i := i2) X hW 34 0 Nat.zero_lt_one rfl (by omega) dX5_told_176 ?_
          exact w_iret X hr hlk hS (by subst eJ4 eI4; first | (simp [mcTold, mToldV, mPartE, mIn, c_1, hk2, c_5]; done) | (simp [mcTold, mToldV, mPartE, mIn, c_1, hk2, c_5]; rfl)) (hW.to (by subst eJ4 eI4; simp [mcTold, mIn, c_1, hk2, c_5]) (by subst eJ4 eI4; simp [mcTold, mIn, c_1, hk2, c_5])) dX5_told_177
        · skip
          subst c_6
          refine lv_tableIn (tgt := 178) hx hb dX5_told_48 (by decide) (by decide) rfl (by decide) ?_
          refine lv_aload_n hx hb dX5_told_178 rfl (lv_at hl 1 rfl) ?_
          refine lv_iload_n hx hb dX5_told_179 rfl (lv_at hl 2 rfl) ?_
          refine w_cV1 X hS (m_X5_partMany l G ad nA nK mA mK E I4 J4 i2 (by first | assumption | omega)) rfl rfl g675 g4 g672 g674 p38 hd_X5_partMany ⟨Nat.le_of_ble_eq_true rfl, Nat.le_of_ble_eq_true rfl⟩ (k_rec X hW 13 0 Nat.zero_lt_one rfl rfl) hW hl.1 rfl (Nat.le_of_ble_eq_true rfl) dX5_told_180 (Nat.zero_le _) (Nat.zero_le _) (fun H locs hW hS => ?_)
          exact w_iret X hr hlk hS (by subst eJ4 eI4; first | (simp [mcTold, mToldV, mPartE, mIn, c_1, hk2, c_5]; done) | (simp [mcTold, mToldV, mPartE, mIn, c_1, hk2, c_5]; rfl)) (hW.to (by subst eJ4 eI4; simp [mcTold, mIn, c_1, hk2, c_5]) (by subst eJ4 eI4; simp [mcTold, mIn, c_1, hk2, c_5])) dX5_told_183
        · skip
          refine lv_tableOut (tgt := 184) hx hb dX5_told_48 c_6 (by decide) ?_
          have c_6_0 : ¬ w = 0 := fun h => by rw [h] at c_6; revert c_6; decide
          have c_6_1 : ¬ w = 1 := fun h => by rw [h] at c_6; revert c_6; decide
          have c_6_2 : ¬ w = 2 := fun h => by rw [h] at c_6; revert c_6; decide
          have c_6_3 : ¬ w = 3 := fun h => by rw [h] at c_6; revert c_6; decide
          have c_6_4 : ¬ w = 4 := fun h => by rw [h] at c_6; revert c_6; decide
          have c_6_5 : ¬ w = 5 := fun h => by rw [h] at c_6; revert c_6; decide
          have c_6_6 : ¬ w = 6 := fun h => by rw [h] at c_6; revert c_6; decide
          have c_6_7 : ¬ w = 7 := fun h => by rw [h] at c_6; revert c_6; decide
          have c_6_8 : ¬ w = 8 := fun h => by rw [h] at c_6; revert c_6; decide
          have c_6_9 : ¬ w = 9 := fun h => by rw [h] at c_6; revert c_6; decide
          rcases k_10_13 c_in c_6 with h11 | h11 | h11 | h11
          · skip
            subst h11
            refine lv_aload_n hx hb dX5_told_184 rfl (lv_at hl 1 rfl) ?_
            refine w_get X hW 13 0 Nat.zero_lt_one rfl rfl inG5 15 (by decide) g513 rfl dX5_told_185 ?_
            refine lv_iconst (v := 4) hx hb dX5_told_188 (by decide) ?_
            refine lv_iload_n hx hb dX5_told_189 rfl (lv_at hl 2 rfl) ?_
            refine lw_imulN (a := 4) (b := i2) hx hb dX5_told_190 ?_
            refine lv_iload_n hx hb dX5_told_191 rfl (lv_at hl 3 rfl) ?_
            refine lw_iaddN (a := 4 * i2) (b := 10) hx hb dX5_told_192 ?_
            refine lv_bipush (v := 10) hx hb dX5_told_193 (by decide) ?_
            refine lw_isubN (a := 4 * i2 + 10) (b := 10) (by omega) hx hb dX5_told_195 ?_
            refine w_ialdN (i := 4 * i2 + 10 - 10) X hW 35 0 Nat.zero_lt_one rfl (by omega) dX5_told_196 ?_
            refine lv_if_ge (tgt := 204) hx hb dX5_told_197 (by decide) (fun c_12 => ?_) (fun c_12 => ?_)
            · skip
              have c_12' : ¬ I4 35 0 (4 * i2 + 10 - 10) < 0 := Int32.not_lt.mpr c_12
              have hp13 : ∃ p, p < mA ∧ I4 35 0 (4 * i2 + 10 - 10) = nI p := hs4.part (by omega) c_12'
              refine lv_aload_n hx hb dX5_told_204 rfl (lv_at hl 1 rfl) ?_
              refine lv_aload_n hx hb dX5_told_205 rfl (lv_at hl 1 rfl) ?_
              refine w_get X hW 13 0 Nat.zero_lt_one rfl rfl inG5 15 (by decide) g513 rfl dX5_told_206 ?_
              refine lv_iconst (v := 4) hx hb dX5_told_209 (by decide) ?_
              refine lv_iload_n hx hb dX5_told_210 rfl (lv_at hl 2 rfl) ?_
              refine lw_imulN (a := 4) (b := i2) hx hb dX5_told_211 ?_
              refine lv_iload_n hx hb dX5_told_212 rfl (lv_at hl 3 rfl) ?_
              refine lw_iaddN (a := 4 * i2) (b := 10) hx hb dX5_told_213 ?_
              refine lv_bipush (v := 10) hx hb dX5_told_214 (by decide) ?_
              refine lw_isubN (a := 4 * i2 + 10) (b := 10) (by omega) hx hb dX5_told_216 ?_
              refine w_ialdN (i := 4 * i2 + 10 - 10) X hW 35 0 Nat.zero_lt_one rfl (by omega) dX5_told_217 ?_
              refine w_cV1 X hS (m_X5_endOf_x l G ad nA nK mA mK E I4 J4 (I4 35 0 (4 * i2 + 10 - 10)) hs4 hp13) rfl rfl g643 g4 g640 g642 p35 hd_X5_endOf ⟨Nat.le_of_ble_eq_true rfl, Nat.le_of_ble_eq_true rfl⟩ (k_rec X hW 13 0 Nat.zero_lt_one rfl rfl) hW hl.1 rfl (Nat.le_of_ble_eq_true rfl) dX5_told_218 (Nat.zero_le _) (Nat.zero_le _) (fun H locs hW hS => ?_)
              have hE14 : mE E (I4 35 0 (4 * i2 + 10 - 10)) < mA := hs4.eb hp13
              exact w_iret X hr hlk hS (by have q14 : 0 ≤ I4 35 0 (4 * i2) := c_12; have q15 : ¬ I4 35 0 (4 * i2) < 0 := c_12'; subst eJ4 eI4; first | (simp [mcTold, mToldV, mPartE, mIn, c_1, hk2, c_5, c_6_0, c_6_1, c_6_2, c_6_3, c_6_4, c_6_5, c_6_6, c_6_7, c_6_8, c_6_9, c_12, c_12', q14, q15]; done) | (simp [mcTold, mToldV, mPartE, mIn, c_1, hk2, c_5, c_6_0, c_6_1, c_6_2, c_6_3, c_6_4, c_6_5, c_6_6, c_6_7, c_6_8, c_6_9, c_12, c_12']; rfl)) (hW.to (by subst eJ4 eI4; simp [mcTold, mIn, c_1, hk2, c_5, c_6_0, c_6_1, c_6_2, c_6_3, c_6_4, c_6_5, c_6_6, c_6_7, c_6_8, c_6_9, c_12, c_12']) (by subst eJ4 eI4; simp [mcTold, mIn, c_1, hk2, c_5, c_6_0, c_6_1, c_6_2, c_6_3, c_6_4, c_6_5, c_6_6, c_6_7, c_6_8, c_6_9, c_12, c_12'])) dX5_told_221
            · skip
              have c_12' : I4 35 0 (4 * i2 + 10 - 10) < 0 := Int32.not_le.mp c_12
              refine lv_iconst (v := (-1)) hx hb dX5_told_200 (by decide) ?_
              refine lv_goto (tgt := 221) hx hb dX5_told_201 (by decide) ?_
              exact w_iret X hr hlk hS (by have q14 : ¬ 0 ≤ I4 35 0 (4 * i2) := c_12; have q15 : I4 35 0 (4 * i2) < 0 := c_12'; subst eJ4 eI4; first | (simp [mcTold, mToldV, mPartE, mIn, c_1, hk2, c_5, c_6_0, c_6_1, c_6_2, c_6_3, c_6_4, c_6_5, c_6_6, c_6_7, c_6_8, c_6_9, c_12, c_12', q14, q15]; done) | (simp [mcTold, mToldV, mPartE, mIn, c_1, hk2, c_5, c_6_0, c_6_1, c_6_2, c_6_3, c_6_4, c_6_5, c_6_6, c_6_7, c_6_8, c_6_9, c_12, c_12']; rfl)) (hW.to (by subst eJ4 eI4; simp [mcTold, mIn, c_1, hk2, c_5, c_6_0, c_6_1, c_6_2, c_6_3, c_6_4, c_6_5, c_6_6, c_6_7, c_6_8, c_6_9, c_12, c_12']) (by subst eJ4 eI4; simp [mcTold, mIn, c_1, hk2, c_5, c_6_0, c_6_1, c_6_2, c_6_3, c_6_4, c_6_5, c_6_6, c_6_7, c_6_8, c_6_9, c_12, c_12'])) dX5_told_221
          · skip
            subst h11
            refine lv_aload_n hx hb dX5_told_184 rfl (lv_at hl 1 rfl) ?_
            refine w_get X hW 13 0 Nat.zero_lt_one rfl rfl inG5 15 (by decide) g513 rfl dX5_told_185 ?_
            refine lv_iconst (v := 4) hx hb dX5_told_188 (by decide) ?_
            refine lv_iload_n hx hb dX5_told_189 rfl (lv_at hl 2 rfl) ?_
            refine lw_imulN (a := 4) (b := i2) hx hb dX5_told_190 ?_
            refine lv_iload_n hx hb dX5_told_191 rfl (lv_at hl 3 rfl) ?_
            refine lw_iaddN (a := 4 * i2) (b := 11) hx hb dX5_told_192 ?_
            refine lv_bipush (v := 10) hx hb dX5_told_193 (by decide) ?_
            refine lw_isubN (a := 4 * i2 + 11) (b := 10) (by omega) hx hb dX5_told_195 ?_
            refine w_ialdN (i := 4 * i2 + 11 - 10) X hW 35 0 Nat.zero_lt_one rfl (by omega) dX5_told_196 ?_
            refine lv_if_ge (tgt := 204) hx hb dX5_told_197 (by decide) (fun c_15 => ?_) (fun c_15 => ?_)
            · skip
              have c_15' : ¬ I4 35 0 (4 * i2 + 11 - 10) < 0 := Int32.not_lt.mpr c_15
              have hp16 : ∃ p, p < mA ∧ I4 35 0 (4 * i2 + 11 - 10) = nI p := hs4.part (by omega) c_15'
              refine lv_aload_n hx hb dX5_told_204 rfl (lv_at hl 1 rfl) ?_
              refine lv_aload_n hx hb dX5_told_205 rfl (lv_at hl 1 rfl) ?_
              refine w_get X hW 13 0 Nat.zero_lt_one rfl rfl inG5 15 (by decide) g513 rfl dX5_told_206 ?_
              refine lv_iconst (v := 4) hx hb dX5_told_209 (by decide) ?_
              refine lv_iload_n hx hb dX5_told_210 rfl (lv_at hl 2 rfl) ?_
              refine lw_imulN (a := 4) (b := i2) hx hb dX5_told_211 ?_
              refine lv_iload_n hx hb dX5_told_212 rfl (lv_at hl 3 rfl) ?_
              refine lw_iaddN (a := 4 * i2) (b := 11) hx hb dX5_told_213 ?_
              refine lv_bipush (v := 10) hx hb dX5_told_214 (by decide) ?_
              refine lw_isubN (a := 4 * i2 + 11) (b := 10) (by omega) hx hb dX5_told_216 ?_
              refine w_ialdN (i := 4 * i2 + 11 - 10) X hW 35 0 Nat.zero_lt_one rfl (by omega) dX5_told_217 ?_
              refine w_cV1 X hS (m_X5_endOf_x l G ad nA nK mA mK E I4 J4 (I4 35 0 (4 * i2 + 11 - 10)) hs4 hp16) rfl rfl g643 g4 g640 g642 p35 hd_X5_endOf ⟨Nat.le_of_ble_eq_true rfl, Nat.le_of_ble_eq_true rfl⟩ (k_rec X hW 13 0 Nat.zero_lt_one rfl rfl) hW hl.1 rfl (Nat.le_of_ble_eq_true rfl) dX5_told_218 (Nat.zero_le _) (Nat.zero_le _) (fun H locs hW hS => ?_)
              have hE17 : mE E (I4 35 0 (4 * i2 + 11 - 10)) < mA := hs4.eb hp16
              exact w_iret X hr hlk hS (by have q14 : 0 ≤ I4 35 0 (4 * i2 + 1) := c_15; have q15 : ¬ I4 35 0 (4 * i2 + 1) < 0 := c_15'; subst eJ4 eI4; first | (simp [mcTold, mToldV, mPartE, mIn, c_1, hk2, c_5, c_6_0, c_6_1, c_6_2, c_6_3, c_6_4, c_6_5, c_6_6, c_6_7, c_6_8, c_6_9, c_15, c_15', q14, q15]; done) | (simp [mcTold, mToldV, mPartE, mIn, c_1, hk2, c_5, c_6_0, c_6_1, c_6_2, c_6_3, c_6_4, c_6_5, c_6_6, c_6_7, c_6_8, c_6_9, c_15, c_15']; rfl)) (hW.to (by subst eJ4 eI4; simp [mcTold, mIn, c_1, hk2, c_5, c_6_0, c_6_1, c_6_2, c_6_3, c_6_4, c_6_5, c_6_6, c_6_7, c_6_8, c_6_9, c_15, c_15']) (by subst eJ4 eI4; simp [mcTold, mIn, c_1, hk2, c_5, c_6_0, c_6_1, c_6_2, c_6_3, c_6_4, c_6_5, c_6_6, c_6_7, c_6_8, c_6_9, c_15, c_15'])) dX5_told_221
            · skip
              have c_15' : I4 35 0 (4 * i2 + 11 - 10) < 0 := Int32.not_le.mp c_15
              refine lv_iconst (v := (-1)) hx hb dX5_told_200 (by decide) ?_
              refine lv_goto (tgt := 221) hx hb dX5_told_201 (by decide) ?_
              exact w_iret X hr hlk hS (by have q14 : ¬ 0 ≤ I4 35 0 (4 * i2 + 1) := c_15; have q15 : I4 35 0 (4 * i2 + 1) < 0 := c_15'; subst eJ4 eI4; first | (simp [mcTold, mToldV, mPartE, mIn, c_1, hk2, c_5, c_6_0, c_6_1, c_6_2, c_6_3, c_6_4, c_6_5, c_6_6, c_6_7, c_6_8, c_6_9, c_15, c_15', q14, q15]; done) | (simp [mcTold, mToldV, mPartE, mIn, c_1, hk2, c_5, c_6_0, c_6_1, c_6_2, c_6_3, c_6_4, c_6_5, c_6_6, c_6_7, c_6_8, c_6_9, c_15, c_15']; rfl)) (hW.to (by subst eJ4 eI4; simp [mcTold, mIn, c_1, hk2, c_5, c_6_0, c_6_1, c_6_2, c_6_3, c_6_4, c_6_5, c_6_6, c_6_7, c_6_8, c_6_9, c_15, c_15']) (by subst eJ4 eI4; simp [mcTold, mIn, c_1, hk2, c_5, c_6_0, c_6_1, c_6_2, c_6_3, c_6_4, c_6_5, c_6_6, c_6_7, c_6_8, c_6_9, c_15, c_15'])) dX5_told_221
          · skip
            subst h11
            refine lv_aload_n hx hb dX5_told_184 rfl (lv_at hl 1 rfl) ?_
            refine w_get X hW 13 0 Nat.zero_lt_one rfl rfl inG5 15 (by decide) g513 rfl dX5_told_185 ?_
            refine lv_iconst (v := 4) hx hb dX5_told_188 (by decide) ?_
            refine lv_iload_n hx hb dX5_told_189 rfl (lv_at hl 2 rfl) ?_
            refine lw_imulN (a := 4) (b := i2) hx hb dX5_told_190 ?_
            refine lv_iload_n hx hb dX5_told_191 rfl (lv_at hl 3 rfl) ?_
            refine lw_iaddN (a := 4 * i2) (b := 12) hx hb dX5_told_192 ?_
            refine lv_bipush (v := 10) hx hb dX5_told_193 (by decide) ?_
            refine lw_isubN (a := 4 * i2 + 12) (b := 10) (by omega) hx hb dX5_told_195 ?_
            refine w_ialdN (i := 4 * i2 + 12 - 10) X hW 35 0 Nat.zero_lt_one rfl (by omega) dX5_told_196 ?_
            refine lv_if_ge (tgt := 204) hx hb dX5_told_197 (by decide) (fun c_18 => ?_) (fun c_18 => ?_)
            · skip
              have c_18' : ¬ I4 35 0 (4 * i2 + 12 - 10) < 0 := Int32.not_lt.mpr c_18
              have hp19 : ∃ p, p < mA ∧ I4 35 0 (4 * i2 + 12 - 10) = nI p := hs4.part (by omega) c_18'
              refine lv_aload_n hx hb dX5_told_204 rfl (lv_at hl 1 rfl) ?_
              refine lv_aload_n hx hb dX5_told_205 rfl (lv_at hl 1 rfl) ?_
              refine w_get X hW 13 0 Nat.zero_lt_one rfl rfl inG5 15 (by decide) g513 rfl dX5_told_206 ?_
              refine lv_iconst (v := 4) hx hb dX5_told_209 (by decide) ?_
              refine lv_iload_n hx hb dX5_told_210 rfl (lv_at hl 2 rfl) ?_
              refine lw_imulN (a := 4) (b := i2) hx hb dX5_told_211 ?_
              refine lv_iload_n hx hb dX5_told_212 rfl (lv_at hl 3 rfl) ?_
              refine lw_iaddN (a := 4 * i2) (b := 12) hx hb dX5_told_213 ?_
              refine lv_bipush (v := 10) hx hb dX5_told_214 (by decide) ?_
              refine lw_isubN (a := 4 * i2 + 12) (b := 10) (by omega) hx hb dX5_told_216 ?_
              refine w_ialdN (i := 4 * i2 + 12 - 10) X hW 35 0 Nat.zero_lt_one rfl (by omega) dX5_told_217 ?_
              refine w_cV1 X hS (m_X5_endOf_x l G ad nA nK mA mK E I4 J4 (I4 35 0 (4 * i2 + 12 - 10)) hs4 hp19) rfl rfl g643 g4 g640 g642 p35 hd_X5_endOf ⟨Nat.le_of_ble_eq_true rfl, Nat.le_of_ble_eq_true rfl⟩ (k_rec X hW 13 0 Nat.zero_lt_one rfl rfl) hW hl.1 rfl (Nat.le_of_ble_eq_true rfl) dX5_told_218 (Nat.zero_le _) (Nat.zero_le _) (fun H locs hW hS => ?_)
              have hE20 : mE E (I4 35 0 (4 * i2 + 12 - 10)) < mA := hs4.eb hp19
              exact w_iret X hr hlk hS (by have q14 : 0 ≤ I4 35 0 (4 * i2 + 2) := c_18; have q15 : ¬ I4 35 0 (4 * i2 + 2) < 0 := c_18'; subst eJ4 eI4; first | (simp [mcTold, mToldV, mPartE, mIn, c_1, hk2, c_5, c_6_0, c_6_1, c_6_2, c_6_3, c_6_4, c_6_5, c_6_6, c_6_7, c_6_8, c_6_9, c_18, c_18', q14, q15]; done) | (simp [mcTold, mToldV, mPartE, mIn, c_1, hk2, c_5, c_6_0, c_6_1, c_6_2, c_6_3, c_6_4, c_6_5, c_6_6, c_6_7, c_6_8, c_6_9, c_18, c_18']; rfl)) (hW.to (by subst eJ4 eI4; simp [mcTold, mIn, c_1, hk2, c_5, c_6_0, c_6_1, c_6_2, c_6_3, c_6_4, c_6_5, c_6_6, c_6_7, c_6_8, c_6_9, c_18, c_18']) (by subst eJ4 eI4; simp [mcTold, mIn, c_1, hk2, c_5, c_6_0, c_6_1, c_6_2, c_6_3, c_6_4, c_6_5, c_6_6, c_6_7, c_6_8, c_6_9, c_18, c_18'])) dX5_told_221
            · skip
              have c_18' : I4 35 0 (4 * i2 + 12 - 10) < 0 := Int32.not_le.mp c_18
              refine lv_iconst (v := (-1)) hx hb dX5_told_200 (by decide) ?_
              refine lv_goto (tgt := 221) hx hb dX5_told_201 (by decide) ?_
              exact w_iret X hr hlk hS (by have q14 : ¬ 0 ≤ I4 35 0 (4 * i2 + 2) := c_18; have q15 : I4 35 0 (4 * i2 + 2) < 0 := c_18'; subst eJ4 eI4; first | (simp [mcTold, mToldV, mPartE, mIn, c_1, hk2, c_5, c_6_0, c_6_1, c_6_2, c_6_3, c_6_4, c_6_5, c_6_6, c_6_7, c_6_8, c_6_9, c_18, c_18', q14, q15]; done) | (simp [mcTold, mToldV, mPartE, mIn, c_1, hk2, c_5, c_6_0, c_6_1, c_6_2, c_6_3, c_6_4, c_6_5, c_6_6, c_6_7, c_6_8, c_6_9, c_18, c_18']; rfl)) (hW.to (by subst eJ4 eI4; simp [mcTold, mIn, c_1, hk2, c_5, c_6_0, c_6_1, c_6_2, c_6_3, c_6_4, c_6_5, c_6_6, c_6_7, c_6_8, c_6_9, c_18, c_18']) (by subst eJ4 eI4; simp [mcTold, mIn, c_1, hk2, c_5, c_6_0, c_6_1, c_6_2, c_6_3, c_6_4, c_6_5, c_6_6, c_6_7, c_6_8, c_6_9, c_18, c_18'])) dX5_told_221
          · skip
            subst h11
            refine lv_aload_n hx hb dX5_told_184 rfl (lv_at hl 1 rfl) ?_
            refine w_get X hW 13 0 Nat.zero_lt_one rfl rfl inG5 15 (by decide) g513 rfl dX5_told_185 ?_
            refine lv_iconst (v := 4) hx hb dX5_told_188 (by decide) ?_
            refine lv_iload_n hx hb dX5_told_189 rfl (lv_at hl 2 rfl) ?_
            refine lw_imulN (a := 4) (b := i2) hx hb dX5_told_190 ?_
            refine lv_iload_n hx hb dX5_told_191 rfl (lv_at hl 3 rfl) ?_
            refine lw_iaddN (a := 4 * i2) (b := 13) hx hb dX5_told_192 ?_
            refine lv_bipush (v := 10) hx hb dX5_told_193 (by decide) ?_
            refine lw_isubN (a := 4 * i2 + 13) (b := 10) (by omega) hx hb dX5_told_195 ?_
            refine w_ialdN (i := 4 * i2 + 13 - 10) X hW 35 0 Nat.zero_lt_one rfl (by omega) dX5_told_196 ?_
            refine lv_if_ge (tgt := 204) hx hb dX5_told_197 (by decide) (fun c_21 => ?_) (fun c_21 => ?_)
            · skip
              have c_21' : ¬ I4 35 0 (4 * i2 + 13 - 10) < 0 := Int32.not_lt.mpr c_21
              have hp22 : ∃ p, p < mA ∧ I4 35 0 (4 * i2 + 13 - 10) = nI p := hs4.part (by omega) c_21'
              refine lv_aload_n hx hb dX5_told_204 rfl (lv_at hl 1 rfl) ?_
              refine lv_aload_n hx hb dX5_told_205 rfl (lv_at hl 1 rfl) ?_
              refine w_get X hW 13 0 Nat.zero_lt_one rfl rfl inG5 15 (by decide) g513 rfl dX5_told_206 ?_
              refine lv_iconst (v := 4) hx hb dX5_told_209 (by decide) ?_
              refine lv_iload_n hx hb dX5_told_210 rfl (lv_at hl 2 rfl) ?_
              refine lw_imulN (a := 4) (b := i2) hx hb dX5_told_211 ?_
              refine lv_iload_n hx hb dX5_told_212 rfl (lv_at hl 3 rfl) ?_
              refine lw_iaddN (a := 4 * i2) (b := 13) hx hb dX5_told_213 ?_
              refine lv_bipush (v := 10) hx hb dX5_told_214 (by decide) ?_
              refine lw_isubN (a := 4 * i2 + 13) (b := 10) (by omega) hx hb dX5_told_216 ?_
              refine w_ialdN (i := 4 * i2 + 13 - 10) X hW 35 0 Nat.zero_lt_one rfl (by omega) dX5_told_217 ?_
              refine w_cV1 X hS (m_X5_endOf_x l G ad nA nK mA mK E I4 J4 (I4 35 0 (4 * i2 + 13 - 10)) hs4 hp22) rfl rfl g643 g4 g640 g642 p35 hd_X5_endOf ⟨Nat.le_of_ble_eq_true rfl, Nat.le_of_ble_eq_true rfl⟩ (k_rec X hW 13 0 Nat.zero_lt_one rfl rfl) hW hl.1 rfl (Nat.le_of_ble_eq_true rfl) dX5_told_218 (Nat.zero_le _) (Nat.zero_le _) (fun H locs hW hS => ?_)
              have hE23 : mE E (I4 35 0 (4 * i2 + 13 - 10)) < mA := hs4.eb hp22
              exact w_iret X hr hlk hS (by have q14 : 0 ≤ I4 35 0 (4 * i2 + 3) := c_21; have q15 : ¬ I4 35 0 (4 * i2 + 3) < 0 := c_21'; subst eJ4 eI4; first | (simp [mcTold, mToldV, mPartE, mIn, c_1, hk2, c_5, c_6_0, c_6_1, c_6_2, c_6_3, c_6_4, c_6_5, c_6_6, c_6_7, c_6_8, c_6_9, c_21, c_21', q14, q15]; done) | (simp [mcTold, mToldV, mPartE, mIn, c_1, hk2, c_5, c_6_0, c_6_1, c_6_2, c_6_3, c_6_4, c_6_5, c_6_6, c_6_7, c_6_8, c_6_9, c_21, c_21']; rfl)) (hW.to (by subst eJ4 eI4; simp [mcTold, mIn, c_1, hk2, c_5, c_6_0, c_6_1, c_6_2, c_6_3, c_6_4, c_6_5, c_6_6, c_6_7, c_6_8, c_6_9, c_21, c_21']) (by subst eJ4 eI4; simp [mcTold, mIn, c_1, hk2, c_5, c_6_0, c_6_1, c_6_2, c_6_3, c_6_4, c_6_5, c_6_6, c_6_7, c_6_8, c_6_9, c_21, c_21'])) dX5_told_221
            · skip
              have c_21' : I4 35 0 (4 * i2 + 13 - 10) < 0 := Int32.not_le.mp c_21
              refine lv_iconst (v := (-1)) hx hb dX5_told_200 (by decide) ?_
              refine lv_goto (tgt := 221) hx hb dX5_told_201 (by decide) ?_
              exact w_iret X hr hlk hS (by have q14 : ¬ 0 ≤ I4 35 0 (4 * i2 + 3) := c_21; have q15 : I4 35 0 (4 * i2 + 3) < 0 := c_21'; subst eJ4 eI4; first | (simp [mcTold, mToldV, mPartE, mIn, c_1, hk2, c_5, c_6_0, c_6_1, c_6_2, c_6_3, c_6_4, c_6_5, c_6_6, c_6_7, c_6_8, c_6_9, c_21, c_21', q14, q15]; done) | (simp [mcTold, mToldV, mPartE, mIn, c_1, hk2, c_5, c_6_0, c_6_1, c_6_2, c_6_3, c_6_4, c_6_5, c_6_6, c_6_7, c_6_8, c_6_9, c_21, c_21']; rfl)) (hW.to (by subst eJ4 eI4; simp [mcTold, mIn, c_1, hk2, c_5, c_6_0, c_6_1, c_6_2, c_6_3, c_6_4, c_6_5, c_6_6, c_6_7, c_6_8, c_6_9, c_21, c_21']) (by subst eJ4 eI4; simp [mcTold, mIn, c_1, hk2, c_5, c_6_0, c_6_1, c_6_2, c_6_3, c_6_4, c_6_5, c_6_6, c_6_7, c_6_8, c_6_9, c_21, c_21'])) dX5_told_221
      · skip
        refine lv_iconst (v := 1) hx hb dX5_told_41 (by decide) ?_
        refine lv_goto (tgt := 46) hx hb dX5_told_42 (by decide) ?_
        refine lv_istore_n (lv' := [(3, .int 1), (0, .ref (ad 13 0)), (1, .int (nI i2)), (2, .int w)]) hx hb dX5_told_46 rfl hl (by decide) rfl (fun ls hl => ?_)
        refine lv_iload_n hx hb dX5_told_47 rfl (lv_at hl 3 rfl) ?_
        rcases k_sw0_9 w with c_24 | c_24 | c_24 | c_24 | c_24 | c_24 | c_24 | c_24 | c_24 | c_24 | c_24
        · skip
          subst c_24
          refine lv_tableIn (tgt := 104) hx hb dX5_told_48 (by decide) (by decide) rfl (by decide) ?_
          refine lv_iload_n hx hb dX5_told_104 rfl (lv_at hl 0 rfl) ?_
          refine lv_if_eq (tgt := 112) hx hb dX5_told_105 (by decide) (fun c_25 => absurd c_25 (by decide)) (fun _ => ?_)
          refine lv_iconst (v := 2) hx hb dX5_told_108 (by decide) ?_
          refine lv_goto (tgt := 118) hx hb dX5_told_109 (by decide) ?_
          exact w_iret X hr hlk hS (by subst eJ4 eI4; first | (simp [mcTold, mToldV, mPartE, mIn, c_1, hk2, c_5]; done) | (simp [mcTold, mToldV, mPartE, mIn, c_1, hk2, c_5]; rfl)) (hW.to (by subst eJ4 eI4; simp [mcTold, mIn, c_1, hk2, c_5]) (by subst eJ4 eI4; simp [mcTold, mIn, c_1, hk2, c_5])) dX5_told_118
        · skip
          subst c_24
          refine lv_tableIn (tgt := 119) hx hb dX5_told_48 (by decide) (by decide) rfl (by decide) ?_
          refine lv_aload_n hx hb dX5_told_119 rfl (lv_at hl 1 rfl) ?_
          refine lv_iload_n hx hb dX5_told_120 rfl (lv_at hl 2 rfl) ?_
          refine w_cV1 X hS (m_X5_endOf l G ad nA nK mA mK E I4 J4 i2 hs4 (by omega)) rfl rfl g643 g4 g640 g642 p35 hd_X5_endOf ⟨Nat.le_of_ble_eq_true rfl, Nat.le_of_ble_eq_true rfl⟩ (k_rec X hW 13 0 Nat.zero_lt_one rfl rfl) hW hl.1 rfl (Nat.le_of_ble_eq_true rfl) dX5_told_121 (Nat.zero_le _) (Nat.zero_le _) (fun H locs hW hS => ?_)
          have hE26 : E i2 < mA := (hs4.2.2.2.2.1 i2 (by omega)).1
          exact w_iret X hr hlk hS (by subst eJ4 eI4; first | (simp [mcTold, mToldV, mPartE, mIn, c_1, hk2, c_5]; done) | (simp [mcTold, mToldV, mPartE, mIn, c_1, hk2, c_5]; rfl)) (hW.to (by subst eJ4 eI4; simp [mcTold, mIn, c_1, hk2, c_5]) (by subst eJ4 eI4; simp [mcTold, mIn, c_1, hk2, c_5])) dX5_told_124
        · skip
          subst c_24
          refine lv_tableIn (tgt := 125) hx hb dX5_told_48 (by decide) (by decide) rfl (by decide) ?_
          refine lv_aload_n hx hb dX5_told_125 rfl (lv_at hl 1 rfl) ?_
          refine w_get X hW 13 0 Nat.zero_lt_one rfl rfl inG5 10 (by decide) g508 rfl dX5_told_126 ?_
          refine lv_iload_n hx hb dX5_told_129 rfl (lv_at hl 2 rfl) ?_
          refine w_ialdN (i := i2) X hW 30 0 Nat.zero_lt_one rfl (by omega) dX5_told_130 ?_
          exact w_iret X hr hlk hS (by subst eJ4 eI4; first | (simp [mcTold, mToldV, mPartE, mIn, c_1, hk2, c_5]; done) | (simp [mcTold, mToldV, mPartE, mIn, c_1, hk2, c_5]; rfl)) (hW.to (by subst eJ4 eI4; simp [mcTold, mIn, c_1, hk2, c_5]) (by subst eJ4 eI4; simp [mcTold, mIn, c_1, hk2, c_5])) dX5_told_131
        · skip
          subst c_24
          refine lv_tableIn (tgt := 132) hx hb dX5_told_48 (by decide) (by decide) rfl (by decide) ?_
          refine lv_aload_n hx hb dX5_told_132 rfl (lv_at hl 1 rfl) ?_
          refine w_get X hW 13 0 Nat.zero_lt_one rfl rfl inG5 21 (by decide) g519 rfl dX5_told_133 ?_
          refine lv_iconst (v := 3) hx hb dX5_told_136 (by decide) ?_
          refine lv_iload_n hx hb dX5_told_137 rfl (lv_at hl 2 rfl) ?_
          refine lw_imulN (a := 3) (b := i2) hx hb dX5_told_138 ?_
          refine lv_iload_n hx hb dX5_told_139 rfl (lv_at hl 3 rfl) ?_
          refine lw_iaddN (a := 3 * i2) (b := 3) hx hb dX5_told_140 ?_
          refine lv_iconst (v := 3) hx hb dX5_told_141 (by decide) ?_
          refine lw_isubN (a := 3 * i2 + 3) (b := 3) (by omega) hx hb dX5_told_142 ?_
          refine w_ialdN (i := 3 * i2 + 3 - 3) X hW 41 0 Nat.zero_lt_one rfl (by omega) dX5_told_143 ?_
          exact w_iret X hr hlk hS (by subst eJ4 eI4; first | (simp [mcTold, mToldV, mPartE, mIn, c_1, hk2, c_5]; done) | (simp [mcTold, mToldV, mPartE, mIn, c_1, hk2, c_5]; rfl)) (hW.to (by subst eJ4 eI4; simp [mcTold, mIn, c_1, hk2, c_5]) (by subst eJ4 eI4; simp [mcTold, mIn, c_1, hk2, c_5])) dX5_told_144
        · skip
          subst c_24
          refine lv_tableIn (tgt := 132) hx hb dX5_told_48 (by decide) (by decide) rfl (by decide) ?_
          refine lv_aload_n hx hb dX5_told_132 rfl (lv_at hl 1 rfl) ?_
          refine w_get X hW 13 0 Nat.zero_lt_one rfl rfl inG5 21 (by decide) g519 rfl dX5_told_133 ?_
          refine lv_iconst (v := 3) hx hb dX5_told_136 (by decide) ?_
          refine lv_iload_n hx hb dX5_told_137 rfl (lv_at hl 2 rfl) ?_
          refine lw_imulN (a := 3) (b := i2) hx hb dX5_told_138 ?_
          refine lv_iload_n hx hb dX5_told_139 rfl (lv_at hl 3 rfl) ?_
          refine lw_iaddN (a := 3 * i2) (b := 4) hx hb dX5_told_140 ?_
          refine lv_iconst (v := 3) hx hb dX5_told_141 (by decide) ?_
          refine lw_isubN (a := 3 * i2 + 4) (b := 3) (by omega) hx hb dX5_told_142 ?_
          refine w_ialdN (i := 3 * i2 + 4 - 3) X hW 41 0 Nat.zero_lt_one rfl (by omega) dX5_told_143 ?_
          exact w_iret X hr hlk hS (by subst eJ4 eI4; first | (simp [mcTold, mToldV, mPartE, mIn, c_1, hk2, c_5]; done) | (simp [mcTold, mToldV, mPartE, mIn, c_1, hk2, c_5]; rfl)) (hW.to (by subst eJ4 eI4; simp [mcTold, mIn, c_1, hk2, c_5]) (by subst eJ4 eI4; simp [mcTold, mIn, c_1, hk2, c_5])) dX5_told_144
        · skip
          subst c_24
          refine lv_tableIn (tgt := 132) hx hb dX5_told_48 (by decide) (by decide) rfl (by decide) ?_
          refine lv_aload_n hx hb dX5_told_132 rfl (lv_at hl 1 rfl) ?_
          refine w_get X hW 13 0 Nat.zero_lt_one rfl rfl inG5 21 (by decide) g519 rfl dX5_told_133 ?_
          refine lv_iconst (v := 3) hx hb dX5_told_136 (by decide) ?_
          refine lv_iload_n hx hb dX5_told_137 rfl (lv_at hl 2 rfl) ?_
          refine lw_imulN (a := 3) (b := i2) hx hb dX5_told_138 ?_
          refine lv_iload_n hx hb dX5_told_139 rfl (lv_at hl 3 rfl) ?_
          refine lw_iaddN (a := 3 * i2) (b := 5) hx hb dX5_told_140 ?_
          refine lv_iconst (v := 3) hx hb dX5_told_141 (by decide) ?_
          refine lw_isubN (a := 3 * i2 + 5) (b := 3) (by omega) hx hb dX5_told_142 ?_
          refine w_ialdN (i := 3 * i2 + 5 - 3) X hW 41 0 Nat.zero_lt_one rfl (by omega) dX5_told_143 ?_
          exact w_iret X hr hlk hS (by subst eJ4 eI4; first | (simp [mcTold, mToldV, mPartE, mIn, c_1, hk2, c_5]; done) | (simp [mcTold, mToldV, mPartE, mIn, c_1, hk2, c_5]; rfl)) (hW.to (by subst eJ4 eI4; simp [mcTold, mIn, c_1, hk2, c_5]) (by subst eJ4 eI4; simp [mcTold, mIn, c_1, hk2, c_5])) dX5_told_144
        · skip
          subst c_24
          refine lv_tableIn (tgt := 145) hx hb dX5_told_48 (by decide) (by decide) rfl (by decide) ?_
          refine lv_aload_n hx hb dX5_told_145 rfl (lv_at hl 1 rfl) ?_
          refine w_get X hW 13 0 Nat.zero_lt_one rfl rfl inG5 22 (by decide) g520 rfl dX5_told_146 ?_
          refine lv_iload_n hx hb dX5_told_149 rfl (lv_at hl 2 rfl) ?_
          refine w_ialdN (i := i2) X hW 42 0 Nat.zero_lt_one rfl (by omega) dX5_told_150 ?_
          exact w_iret X hr hlk hS (by subst eJ4 eI4; first | (simp [mcTold, mToldV, mPartE, mIn, c_1, hk2, c_5]; done) | (simp [mcTold, mToldV, mPartE, mIn, c_1, hk2, c_5]; rfl)) (hW.to (by subst eJ4 eI4; simp [mcTold, mIn, c_1, hk2, c_5]) (by subst eJ4 eI4; simp [mcTold, mIn, c_1, hk2, c_5])) dX5_told_151
        · skip
          subst c_24
          refine lv_tableIn (tgt := 152) hx hb dX5_told_48 (by decide) (by decide) rfl (by decide) ?_
          refine lv_iload_n hx hb dX5_told_152 rfl (lv_at hl 0 rfl) ?_
          refine lv_if_ne (tgt := 169) hx hb dX5_told_153 (by decide) (fun _ => ?_) (fun c_27 => absurd c_27 (by decide))
          refine lv_iconst (v := 0) hx hb dX5_told_169 (by decide) ?_
          exact w_iret X hr hlk hS (by subst eJ4 eI4; first | (simp [mcTold, mToldV, mPartE, mIn, c_1, hk2, c_5]; done) | (simp [mcTold, mToldV, mPartE, mIn, c_1, hk2, c_5]; rfl)) (hW.to (by subst eJ4 eI4; simp [mcTold, mIn, c_1, hk2, c_5]) (by subst eJ4 eI4; simp [mcTold, mIn, c_1, hk2, c_5])) dX5_told_170
        · skip
          subst c_24
          refine lv_tableIn (tgt := 171) hx hb dX5_told_48 (by decide) (by decide) rfl (by decide) ?_
          refine lv_aload_n hx hb dX5_told_171 rfl (lv_at hl 1 rfl) ?_
          refine w_get X hW 13 0 Nat.zero_lt_one rfl rfl inG5 14 (by decide) g512 rfl dX5_told_172 ?_
          refine lv_iload_n hx hb dX5_told_175 rfl (lv_at hl 2 rfl) ?_
          refine w_ialdN (i := i2) X hW 34 0 Nat.zero_lt_one rfl (by omega) dX5_told_176 ?_
          exact w_iret X hr hlk hS (by subst eJ4 eI4; first | (simp [mcTold, mToldV, mPartE, mIn, c_1, hk2, c_5]; done) | (simp [mcTold, mToldV, mPartE, mIn, c_1, hk2, c_5]; rfl)) (hW.to (by subst eJ4 eI4; simp [mcTold, mIn, c_1, hk2, c_5]) (by subst eJ4 eI4; simp [mcTold, mIn, c_1, hk2, c_5])) dX5_told_177
        · skip
          subst c_24
          refine lv_tableIn (tgt := 178) hx hb dX5_told_48 (by decide) (by decide) rfl (by decide) ?_
          refine lv_aload_n hx hb dX5_told_178 rfl (lv_at hl 1 rfl) ?_
          refine lv_iload_n hx hb dX5_told_179 rfl (lv_at hl 2 rfl) ?_
          refine w_cV1 X hS (m_X5_partMany l G ad nA nK mA mK E I4 J4 i2 (by first | assumption | omega)) rfl rfl g675 g4 g672 g674 p38 hd_X5_partMany ⟨Nat.le_of_ble_eq_true rfl, Nat.le_of_ble_eq_true rfl⟩ (k_rec X hW 13 0 Nat.zero_lt_one rfl rfl) hW hl.1 rfl (Nat.le_of_ble_eq_true rfl) dX5_told_180 (Nat.zero_le _) (Nat.zero_le _) (fun H locs hW hS => ?_)
          exact w_iret X hr hlk hS (by subst eJ4 eI4; first | (simp [mcTold, mToldV, mPartE, mIn, c_1, hk2, c_5]; done) | (simp [mcTold, mToldV, mPartE, mIn, c_1, hk2, c_5]; rfl)) (hW.to (by subst eJ4 eI4; simp [mcTold, mIn, c_1, hk2, c_5]) (by subst eJ4 eI4; simp [mcTold, mIn, c_1, hk2, c_5])) dX5_told_183
        · skip
          refine lv_tableOut (tgt := 184) hx hb dX5_told_48 c_24 (by decide) ?_
          have c_24_0 : ¬ w = 0 := fun h => by rw [h] at c_24; revert c_24; decide
          have c_24_1 : ¬ w = 1 := fun h => by rw [h] at c_24; revert c_24; decide
          have c_24_2 : ¬ w = 2 := fun h => by rw [h] at c_24; revert c_24; decide
          have c_24_3 : ¬ w = 3 := fun h => by rw [h] at c_24; revert c_24; decide
          have c_24_4 : ¬ w = 4 := fun h => by rw [h] at c_24; revert c_24; decide
          have c_24_5 : ¬ w = 5 := fun h => by rw [h] at c_24; revert c_24; decide
          have c_24_6 : ¬ w = 6 := fun h => by rw [h] at c_24; revert c_24; decide
          have c_24_7 : ¬ w = 7 := fun h => by rw [h] at c_24; revert c_24; decide
          have c_24_8 : ¬ w = 8 := fun h => by rw [h] at c_24; revert c_24; decide
          have c_24_9 : ¬ w = 9 := fun h => by rw [h] at c_24; revert c_24; decide
          rcases k_10_13 c_in c_24 with h28 | h28 | h28 | h28
          · skip
            subst h28
            refine lv_aload_n hx hb dX5_told_184 rfl (lv_at hl 1 rfl) ?_
            refine w_get X hW 13 0 Nat.zero_lt_one rfl rfl inG5 15 (by decide) g513 rfl dX5_told_185 ?_
            refine lv_iconst (v := 4) hx hb dX5_told_188 (by decide) ?_
            refine lv_iload_n hx hb dX5_told_189 rfl (lv_at hl 2 rfl) ?_
            refine lw_imulN (a := 4) (b := i2) hx hb dX5_told_190 ?_
            refine lv_iload_n hx hb dX5_told_191 rfl (lv_at hl 3 rfl) ?_
            refine lw_iaddN (a := 4 * i2) (b := 10) hx hb dX5_told_192 ?_
            refine lv_bipush (v := 10) hx hb dX5_told_193 (by decide) ?_
            refine lw_isubN (a := 4 * i2 + 10) (b := 10) (by omega) hx hb dX5_told_195 ?_
            refine w_ialdN (i := 4 * i2 + 10 - 10) X hW 35 0 Nat.zero_lt_one rfl (by omega) dX5_told_196 ?_
            refine lv_if_ge (tgt := 204) hx hb dX5_told_197 (by decide) (fun c_29 => ?_) (fun c_29 => ?_)
            · skip
              have c_29' : ¬ I4 35 0 (4 * i2 + 10 - 10) < 0 := Int32.not_lt.mpr c_29
              have hp30 : ∃ p, p < mA ∧ I4 35 0 (4 * i2 + 10 - 10) = nI p := hs4.part (by omega) c_29'
              refine lv_aload_n hx hb dX5_told_204 rfl (lv_at hl 1 rfl) ?_
              refine lv_aload_n hx hb dX5_told_205 rfl (lv_at hl 1 rfl) ?_
              refine w_get X hW 13 0 Nat.zero_lt_one rfl rfl inG5 15 (by decide) g513 rfl dX5_told_206 ?_
              refine lv_iconst (v := 4) hx hb dX5_told_209 (by decide) ?_
              refine lv_iload_n hx hb dX5_told_210 rfl (lv_at hl 2 rfl) ?_
              refine lw_imulN (a := 4) (b := i2) hx hb dX5_told_211 ?_
              refine lv_iload_n hx hb dX5_told_212 rfl (lv_at hl 3 rfl) ?_
              refine lw_iaddN (a := 4 * i2) (b := 10) hx hb dX5_told_213 ?_
              refine lv_bipush (v := 10) hx hb dX5_told_214 (by decide) ?_
              refine lw_isubN (a := 4 * i2 + 10) (b := 10) (by omega) hx hb dX5_told_216 ?_
              refine w_ialdN (i := 4 * i2 + 10 - 10) X hW 35 0 Nat.zero_lt_one rfl (by omega) dX5_told_217 ?_
              refine w_cV1 X hS (m_X5_endOf_x l G ad nA nK mA mK E I4 J4 (I4 35 0 (4 * i2 + 10 - 10)) hs4 hp30) rfl rfl g643 g4 g640 g642 p35 hd_X5_endOf ⟨Nat.le_of_ble_eq_true rfl, Nat.le_of_ble_eq_true rfl⟩ (k_rec X hW 13 0 Nat.zero_lt_one rfl rfl) hW hl.1 rfl (Nat.le_of_ble_eq_true rfl) dX5_told_218 (Nat.zero_le _) (Nat.zero_le _) (fun H locs hW hS => ?_)
              have hE31 : mE E (I4 35 0 (4 * i2 + 10 - 10)) < mA := hs4.eb hp30
              exact w_iret X hr hlk hS (by have q14 : 0 ≤ I4 35 0 (4 * i2) := c_29; have q15 : ¬ I4 35 0 (4 * i2) < 0 := c_29'; subst eJ4 eI4; first | (simp [mcTold, mToldV, mPartE, mIn, c_1, hk2, c_5, c_24_0, c_24_1, c_24_2, c_24_3, c_24_4, c_24_5, c_24_6, c_24_7, c_24_8, c_24_9, c_29, c_29', q14, q15]; done) | (simp [mcTold, mToldV, mPartE, mIn, c_1, hk2, c_5, c_24_0, c_24_1, c_24_2, c_24_3, c_24_4, c_24_5, c_24_6, c_24_7, c_24_8, c_24_9, c_29, c_29']; rfl)) (hW.to (by subst eJ4 eI4; simp [mcTold, mIn, c_1, hk2, c_5, c_24_0, c_24_1, c_24_2, c_24_3, c_24_4, c_24_5, c_24_6, c_24_7, c_24_8, c_24_9, c_29, c_29']) (by subst eJ4 eI4; simp [mcTold, mIn, c_1, hk2, c_5, c_24_0, c_24_1, c_24_2, c_24_3, c_24_4, c_24_5, c_24_6, c_24_7, c_24_8, c_24_9, c_29, c_29'])) dX5_told_221
            · skip
              have c_29' : I4 35 0 (4 * i2 + 10 - 10) < 0 := Int32.not_le.mp c_29
              refine lv_iconst (v := (-1)) hx hb dX5_told_200 (by decide) ?_
              refine lv_goto (tgt := 221) hx hb dX5_told_201 (by decide) ?_
              exact w_iret X hr hlk hS (by have q14 : ¬ 0 ≤ I4 35 0 (4 * i2) := c_29; have q15 : I4 35 0 (4 * i2) < 0 := c_29'; subst eJ4 eI4; first | (simp [mcTold, mToldV, mPartE, mIn, c_1, hk2, c_5, c_24_0, c_24_1, c_24_2, c_24_3, c_24_4, c_24_5, c_24_6, c_24_7, c_24_8, c_24_9, c_29, c_29', q14, q15]; done) | (simp [mcTold, mToldV, mPartE, mIn, c_1, hk2, c_5, c_24_0, c_24_1, c_24_2, c_24_3, c_24_4, c_24_5, c_24_6, c_24_7, c_24_8, c_24_9, c_29, c_29']; rfl)) (hW.to (by subst eJ4 eI4; simp [mcTold, mIn, c_1, hk2, c_5, c_24_0, c_24_1, c_24_2, c_24_3, c_24_4, c_24_5, c_24_6, c_24_7, c_24_8, c_24_9, c_29, c_29']) (by subst eJ4 eI4; simp [mcTold, mIn, c_1, hk2, c_5, c_24_0, c_24_1, c_24_2, c_24_3, c_24_4, c_24_5, c_24_6, c_24_7, c_24_8, c_24_9, c_29, c_29'])) dX5_told_221
          · skip
            subst h28
            refine lv_aload_n hx hb dX5_told_184 rfl (lv_at hl 1 rfl) ?_
            refine w_get X hW 13 0 Nat.zero_lt_one rfl rfl inG5 15 (by decide) g513 rfl dX5_told_185 ?_
            refine lv_iconst (v := 4) hx hb dX5_told_188 (by decide) ?_
            refine lv_iload_n hx hb dX5_told_189 rfl (lv_at hl 2 rfl) ?_
            refine lw_imulN (a := 4) (b := i2) hx hb dX5_told_190 ?_
            refine lv_iload_n hx hb dX5_told_191 rfl (lv_at hl 3 rfl) ?_
            refine lw_iaddN (a := 4 * i2) (b := 11) hx hb dX5_told_192 ?_
            refine lv_bipush (v := 10) hx hb dX5_told_193 (by decide) ?_
            refine lw_isubN (a := 4 * i2 + 11) (b := 10) (by omega) hx hb dX5_told_195 ?_
            refine w_ialdN (i := 4 * i2 + 11 - 10) X hW 35 0 Nat.zero_lt_one rfl (by omega) dX5_told_196 ?_
            refine lv_if_ge (tgt := 204) hx hb dX5_told_197 (by decide) (fun c_32 => ?_) (fun c_32 => ?_)
            · skip
              have c_32' : ¬ I4 35 0 (4 * i2 + 11 - 10) < 0 := Int32.not_lt.mpr c_32
              have hp33 : ∃ p, p < mA ∧ I4 35 0 (4 * i2 + 11 - 10) = nI p := hs4.part (by omega) c_32'
              refine lv_aload_n hx hb dX5_told_204 rfl (lv_at hl 1 rfl) ?_
              refine lv_aload_n hx hb dX5_told_205 rfl (lv_at hl 1 rfl) ?_
              refine w_get X hW 13 0 Nat.zero_lt_one rfl rfl inG5 15 (by decide) g513 rfl dX5_told_206 ?_
              refine lv_iconst (v := 4) hx hb dX5_told_209 (by decide) ?_
              refine lv_iload_n hx hb dX5_told_210 rfl (lv_at hl 2 rfl) ?_
              refine lw_imulN (a := 4) (b := i2) hx hb dX5_told_211 ?_
              refine lv_iload_n hx hb dX5_told_212 rfl (lv_at hl 3 rfl) ?_
              refine lw_iaddN (a := 4 * i2) (b := 11) hx hb dX5_told_213 ?_
              refine lv_bipush (v := 10) hx hb dX5_told_214 (by decide) ?_
              refine lw_isubN (a := 4 * i2 + 11) (b := 10) (by omega) hx hb dX5_told_216 ?_
              refine w_ialdN (i := 4 * i2 + 11 - 10) X hW 35 0 Nat.zero_lt_one rfl (by omega) dX5_told_217 ?_
              refine w_cV1 X hS (m_X5_endOf_x l G ad nA nK mA mK E I4 J4 (I4 35 0 (4 * i2 + 11 - 10)) hs4 hp33) rfl rfl g643 g4 g640 g642 p35 hd_X5_endOf ⟨Nat.le_of_ble_eq_true rfl, Nat.le_of_ble_eq_true rfl⟩ (k_rec X hW 13 0 Nat.zero_lt_one rfl rfl) hW hl.1 rfl (Nat.le_of_ble_eq_true rfl) dX5_told_218 (Nat.zero_le _) (Nat.zero_le _) (fun H locs hW hS => ?_)
              have hE34 : mE E (I4 35 0 (4 * i2 + 11 - 10)) < mA := hs4.eb hp33
              exact w_iret X hr hlk hS (by have q14 : 0 ≤ I4 35 0 (4 * i2 + 1) := c_32; have q15 : ¬ I4 35 0 (4 * i2 + 1) < 0 := c_32'; subst eJ4 eI4; first | (simp [mcTold, mToldV, mPartE, mIn, c_1, hk2, c_5, c_24_0, c_24_1, c_24_2, c_24_3, c_24_4, c_24_5, c_24_6, c_24_7, c_24_8, c_24_9, c_32, c_32', q14, q15]; done) | (simp [mcTold, mToldV, mPartE, mIn, c_1, hk2, c_5, c_24_0, c_24_1, c_24_2, c_24_3, c_24_4, c_24_5, c_24_6, c_24_7, c_24_8, c_24_9, c_32, c_32']; rfl)) (hW.to (by subst eJ4 eI4; simp [mcTold, mIn, c_1, hk2, c_5, c_24_0, c_24_1, c_24_2, c_24_3, c_24_4, c_24_5, c_24_6, c_24_7, c_24_8, c_24_9, c_32, c_32']) (by subst eJ4 eI4; simp [mcTold, mIn, c_1, hk2, c_5, c_24_0, c_24_1, c_24_2, c_24_3, c_24_4, c_24_5, c_24_6, c_24_7, c_24_8, c_24_9, c_32, c_32'])) dX5_told_221
            · skip
              have c_32' : I4 35 0 (4 * i2 + 11 - 10) < 0 := Int32.not_le.mp c_32
              refine lv_iconst (v := (-1)) hx hb dX5_told_200 (by decide) ?_
              refine lv_goto (tgt := 221) hx hb dX5_told_201 (by decide) ?_
              exact w_iret X hr hlk hS (by have q14 : ¬ 0 ≤ I4 35 0 (4 * i2 + 1) := c_32; have q15 : I4 35 0 (4 * i2 + 1) < 0 := c_32'; subst eJ4 eI4; first | (simp [mcTold, mToldV, mPartE, mIn, c_1, hk2, c_5, c_24_0, c_24_1, c_24_2, c_24_3, c_24_4, c_24_5, c_24_6, c_24_7, c_24_8, c_24_9, c_32, c_32', q14, q15]; done) | (simp [mcTold, mToldV, mPartE, mIn, c_1, hk2, c_5, c_24_0, c_24_1, c_24_2, c_24_3, c_24_4, c_24_5, c_24_6, c_24_7, c_24_8, c_24_9, c_32, c_32']; rfl)) (hW.to (by subst eJ4 eI4; simp [mcTold, mIn, c_1, hk2, c_5, c_24_0, c_24_1, c_24_2, c_24_3, c_24_4, c_24_5, c_24_6, c_24_7, c_24_8, c_24_9, c_32, c_32']) (by subst eJ4 eI4; simp [mcTold, mIn, c_1, hk2, c_5, c_24_0, c_24_1, c_24_2, c_24_3, c_24_4, c_24_5, c_24_6, c_24_7, c_24_8, c_24_9, c_32, c_32'])) dX5_told_221
          · skip
            subst h28
            refine lv_aload_n hx hb dX5_told_184 rfl (lv_at hl 1 rfl) ?_
            refine w_get X hW 13 0 Nat.zero_lt_one rfl rfl inG5 15 (by decide) g513 rfl dX5_told_185 ?_
            refine lv_iconst (v := 4) hx hb dX5_told_188 (by decide) ?_
            refine lv_iload_n hx hb dX5_told_189 rfl (lv_at hl 2 rfl) ?_
            refine lw_imulN (a := 4) (b := i2) hx hb dX5_told_190 ?_
            refine lv_iload_n hx hb dX5_told_191 rfl (lv_at hl 3 rfl) ?_
            refine lw_iaddN (a := 4 * i2) (b := 12) hx hb dX5_told_192 ?_
            refine lv_bipush (v := 10) hx hb dX5_told_193 (by decide) ?_
            refine lw_isubN (a := 4 * i2 + 12) (b := 10) (by omega) hx hb dX5_told_195 ?_
            refine w_ialdN (i := 4 * i2 + 12 - 10) X hW 35 0 Nat.zero_lt_one rfl (by omega) dX5_told_196 ?_
            refine lv_if_ge (tgt := 204) hx hb dX5_told_197 (by decide) (fun c_35 => ?_) (fun c_35 => ?_)
            · skip
              have c_35' : ¬ I4 35 0 (4 * i2 + 12 - 10) < 0 := Int32.not_lt.mpr c_35
              have hp36 : ∃ p, p < mA ∧ I4 35 0 (4 * i2 + 12 - 10) = nI p := hs4.part (by omega) c_35'
              refine lv_aload_n hx hb dX5_told_204 rfl (lv_at hl 1 rfl) ?_
              refine lv_aload_n hx hb dX5_told_205 rfl (lv_at hl 1 rfl) ?_
              refine w_get X hW 13 0 Nat.zero_lt_one rfl rfl inG5 15 (by decide) g513 rfl dX5_told_206 ?_
              refine lv_iconst (v := 4) hx hb dX5_told_209 (by decide) ?_
              refine lv_iload_n hx hb dX5_told_210 rfl (lv_at hl 2 rfl) ?_
              refine lw_imulN (a := 4) (b := i2) hx hb dX5_told_211 ?_
              refine lv_iload_n hx hb dX5_told_212 rfl (lv_at hl 3 rfl) ?_
              refine lw_iaddN (a := 4 * i2) (b := 12) hx hb dX5_told_213 ?_
              refine lv_bipush (v := 10) hx hb dX5_told_214 (by decide) ?_
              refine lw_isubN (a := 4 * i2 + 12) (b := 10) (by omega) hx hb dX5_told_216 ?_
              refine w_ialdN (i := 4 * i2 + 12 - 10) X hW 35 0 Nat.zero_lt_one rfl (by omega) dX5_told_217 ?_
              refine w_cV1 X hS (m_X5_endOf_x l G ad nA nK mA mK E I4 J4 (I4 35 0 (4 * i2 + 12 - 10)) hs4 hp36) rfl rfl g643 g4 g640 g642 p35 hd_X5_endOf ⟨Nat.le_of_ble_eq_true rfl, Nat.le_of_ble_eq_true rfl⟩ (k_rec X hW 13 0 Nat.zero_lt_one rfl rfl) hW hl.1 rfl (Nat.le_of_ble_eq_true rfl) dX5_told_218 (Nat.zero_le _) (Nat.zero_le _) (fun H locs hW hS => ?_)
              have hE37 : mE E (I4 35 0 (4 * i2 + 12 - 10)) < mA := hs4.eb hp36
              exact w_iret X hr hlk hS (by have q14 : 0 ≤ I4 35 0 (4 * i2 + 2) := c_35; have q15 : ¬ I4 35 0 (4 * i2 + 2) < 0 := c_35'; subst eJ4 eI4; first | (simp [mcTold, mToldV, mPartE, mIn, c_1, hk2, c_5, c_24_0, c_24_1, c_24_2, c_24_3, c_24_4, c_24_5, c_24_6, c_24_7, c_24_8, c_24_9, c_35, c_35', q14, q15]; done) | (simp [mcTold, mToldV, mPartE, mIn, c_1, hk2, c_5, c_24_0, c_24_1, c_24_2, c_24_3, c_24_4, c_24_5, c_24_6, c_24_7, c_24_8, c_24_9, c_35, c_35']; rfl)) (hW.to (by subst eJ4 eI4; simp [mcTold, mIn, c_1, hk2, c_5, c_24_0, c_24_1, c_24_2, c_24_3, c_24_4, c_24_5, c_24_6, c_24_7, c_24_8, c_24_9, c_35, c_35']) (by subst eJ4 eI4; simp [mcTold, mIn, c_1, hk2, c_5, c_24_0, c_24_1, c_24_2, c_24_3, c_24_4, c_24_5, c_24_6, c_24_7, c_24_8, c_24_9, c_35, c_35'])) dX5_told_221
            · skip
              have c_35' : I4 35 0 (4 * i2 + 12 - 10) < 0 := Int32.not_le.mp c_35
              refine lv_iconst (v := (-1)) hx hb dX5_told_200 (by decide) ?_
              refine lv_goto (tgt := 221) hx hb dX5_told_201 (by decide) ?_
              exact w_iret X hr hlk hS (by have q14 : ¬ 0 ≤ I4 35 0 (4 * i2 + 2) := c_35; have q15 : I4 35 0 (4 * i2 + 2) < 0 := c_35'; subst eJ4 eI4; first | (simp [mcTold, mToldV, mPartE, mIn, c_1, hk2, c_5, c_24_0, c_24_1, c_24_2, c_24_3, c_24_4, c_24_5, c_24_6, c_24_7, c_24_8, c_24_9, c_35, c_35', q14, q15]; done) | (simp [mcTold, mToldV, mPartE, mIn, c_1, hk2, c_5, c_24_0, c_24_1, c_24_2, c_24_3, c_24_4, c_24_5, c_24_6, c_24_7, c_24_8, c_24_9, c_35, c_35']; rfl)) (hW.to (by subst eJ4 eI4; simp [mcTold, mIn, c_1, hk2, c_5, c_24_0, c_24_1, c_24_2, c_24_3, c_24_4, c_24_5, c_24_6, c_24_7, c_24_8, c_24_9, c_35, c_35']) (by subst eJ4 eI4; simp [mcTold, mIn, c_1, hk2, c_5, c_24_0, c_24_1, c_24_2, c_24_3, c_24_4, c_24_5, c_24_6, c_24_7, c_24_8, c_24_9, c_35, c_35'])) dX5_told_221
          · skip
            subst h28
            refine lv_aload_n hx hb dX5_told_184 rfl (lv_at hl 1 rfl) ?_
            refine w_get X hW 13 0 Nat.zero_lt_one rfl rfl inG5 15 (by decide) g513 rfl dX5_told_185 ?_
            refine lv_iconst (v := 4) hx hb dX5_told_188 (by decide) ?_
            refine lv_iload_n hx hb dX5_told_189 rfl (lv_at hl 2 rfl) ?_
            refine lw_imulN (a := 4) (b := i2) hx hb dX5_told_190 ?_
            refine lv_iload_n hx hb dX5_told_191 rfl (lv_at hl 3 rfl) ?_
            refine lw_iaddN (a := 4 * i2) (b := 13) hx hb dX5_told_192 ?_
            refine lv_bipush (v := 10) hx hb dX5_told_193 (by decide) ?_
            refine lw_isubN (a := 4 * i2 + 13) (b := 10) (by omega) hx hb dX5_told_195 ?_
            refine w_ialdN (i := 4 * i2 + 13 - 10) X hW 35 0 Nat.zero_lt_one rfl (by omega) dX5_told_196 ?_
            refine lv_if_ge (tgt := 204) hx hb dX5_told_197 (by decide) (fun c_38 => ?_) (fun c_38 => ?_)
            · skip
              have c_38' : ¬ I4 35 0 (4 * i2 + 13 - 10) < 0 := Int32.not_lt.mpr c_38
              have hp39 : ∃ p, p < mA ∧ I4 35 0 (4 * i2 + 13 - 10) = nI p := hs4.part (by omega) c_38'
              refine lv_aload_n hx hb dX5_told_204 rfl (lv_at hl 1 rfl) ?_
              refine lv_aload_n hx hb dX5_told_205 rfl (lv_at hl 1 rfl) ?_
              refine w_get X hW 13 0 Nat.zero_lt_one rfl rfl inG5 15 (by decide) g513 rfl dX5_told_206 ?_
              refine lv_iconst (v := 4) hx hb dX5_told_209 (by decide) ?_
              refine lv_iload_n hx hb dX5_told_210 rfl (lv_at hl 2 rfl) ?_
              refine lw_imulN (a := 4) (b := i2) hx hb dX5_told_211 ?_
              refine lv_iload_n hx hb dX5_told_212 rfl (lv_at hl 3 rfl) ?_
              refine lw_iaddN (a := 4 * i2) (b := 13) hx hb dX5_told_213 ?_
              refine lv_bipush (v := 10) hx hb dX5_told_214 (by decide) ?_
              refine lw_isubN (a := 4 * i2 + 13) (b := 10) (by omega) hx hb dX5_told_216 ?_
              refine w_ialdN (i := 4 * i2 + 13 - 10) X hW 35 0 Nat.zero_lt_one rfl (by omega) dX5_told_217 ?_
              refine w_cV1 X hS (m_X5_endOf_x l G ad nA nK mA mK E I4 J4 (I4 35 0 (4 * i2 + 13 - 10)) hs4 hp39) rfl rfl g643 g4 g640 g642 p35 hd_X5_endOf ⟨Nat.le_of_ble_eq_true rfl, Nat.le_of_ble_eq_true rfl⟩ (k_rec X hW 13 0 Nat.zero_lt_one rfl rfl) hW hl.1 rfl (Nat.le_of_ble_eq_true rfl) dX5_told_218 (Nat.zero_le _) (Nat.zero_le _) (fun H locs hW hS => ?_)
              have hE40 : mE E (I4 35 0 (4 * i2 + 13 - 10)) < mA := hs4.eb hp39
              exact w_iret X hr hlk hS (by have q14 : 0 ≤ I4 35 0 (4 * i2 + 3) := c_38; have q15 : ¬ I4 35 0 (4 * i2 + 3) < 0 := c_38'; subst eJ4 eI4; first | (simp [mcTold, mToldV, mPartE, mIn, c_1, hk2, c_5, c_24_0, c_24_1, c_24_2, c_24_3, c_24_4, c_24_5, c_24_6, c_24_7, c_24_8, c_24_9, c_38, c_38', q14, q15]; done) | (simp [mcTold, mToldV, mPartE, mIn, c_1, hk2, c_5, c_24_0, c_24_1, c_24_2, c_24_3, c_24_4, c_24_5, c_24_6, c_24_7, c_24_8, c_24_9, c_38, c_38']; rfl)) (hW.to (by subst eJ4 eI4; simp [mcTold, mIn, c_1, hk2, c_5, c_24_0, c_24_1, c_24_2, c_24_3, c_24_4, c_24_5, c_24_6, c_24_7, c_24_8, c_24_9, c_38, c_38']) (by subst eJ4 eI4; simp [mcTold, mIn, c_1, hk2, c_5, c_24_0, c_24_1, c_24_2, c_24_3, c_24_4, c_24_5, c_24_6, c_24_7, c_24_8, c_24_9, c_38, c_38'])) dX5_told_221
            · skip
              have c_38' : I4 35 0 (4 * i2 + 13 - 10) < 0 := Int32.not_le.mp c_38
              refine lv_iconst (v := (-1)) hx hb dX5_told_200 (by decide) ?_
              refine lv_goto (tgt := 221) hx hb dX5_told_201 (by decide) ?_
              exact w_iret X hr hlk hS (by have q14 : ¬ 0 ≤ I4 35 0 (4 * i2 + 3) := c_38; have q15 : I4 35 0 (4 * i2 + 3) < 0 := c_38'; subst eJ4 eI4; first | (simp [mcTold, mToldV, mPartE, mIn, c_1, hk2, c_5, c_24_0, c_24_1, c_24_2, c_24_3, c_24_4, c_24_5, c_24_6, c_24_7, c_24_8, c_24_9, c_38, c_38', q14, q15]; done) | (simp [mcTold, mToldV, mPartE, mIn, c_1, hk2, c_5, c_24_0, c_24_1, c_24_2, c_24_3, c_24_4, c_24_5, c_24_6, c_24_7, c_24_8, c_24_9, c_38, c_38']; rfl)) (hW.to (by subst eJ4 eI4; simp [mcTold, mIn, c_1, hk2, c_5, c_24_0, c_24_1, c_24_2, c_24_3, c_24_4, c_24_5, c_24_6, c_24_7, c_24_8, c_24_9, c_38, c_38']) (by subst eJ4 eI4; simp [mcTold, mIn, c_1, hk2, c_5, c_24_0, c_24_1, c_24_2, c_24_3, c_24_4, c_24_5, c_24_6, c_24_7, c_24_8, c_24_9, c_38, c_38'])) dX5_told_221
    · skip
      refine lv_sipush (v := (-1002)) hx hb dX5_told_24 (by decide) ?_
      exact w_iret X hr hlk hS (by first | rfl | (simp [mcTold, mToldV, mPartE, c_1, hk2, c_3]; done) | (simp [mcTold, mToldV, mPartE, c_1, hk2, c_3]; rfl)) (hW.to (by first | rfl | (simp [mcTold, mToldV, mPartE, c_1, hk2, c_3]; done)) (by first | rfl | (simp [mcTold, mToldV, mPartE, c_1, hk2, c_3]; done))) dX5_told_27
  · skip
    have hk41 : kAns mA a = none := mIs_none (by omega) c_1
    refine lv_sipush (v := (-1001)) hx hb dX5_told_8 (by decide) ?_
    exact w_iret X hr hlk hS (by first | rfl | (simp [mcTold, mToldV, mPartE, c_1, hk41]; done) | (simp [mcTold, mToldV, mPartE, c_1, hk41]; rfl)) (hW.to (by first | rfl | (simp [mcTold, mToldV, mPartE, c_1, hk41]; done)) (by first | rfl | (simp [mcTold, mToldV, mPartE, c_1, hk41]; done))) dX5_told_11
set_option maxHeartbeats 4000000 in
set_option maxRecDepth 100000 in
theorem m_X5_words (l : Launch) (G : k_G) (ad : Nat → Nat → Nat) (nA nK : Nat) (mA mK : Nat) (E : Nat → Nat) (I : k_I) (J : k_J) (a : Int32) (hs : m_S mA mK E I) : k_Met l yX5_words cX5_words 2 (some FieldType.long) { frames := 3, cells := 0, slots := 0, locals := 69 } G [.ref (ad 13 0), .int a] (Wd G ad nA nK I J) (some (.long ((mcWords E mA a (I, J)).1))) (Wd G ad nA nK ((mcWords E mA a (I, J)).2.1) ((mcWords E mA a (I, J)).2.2)) 0 0 := by
  refine k_body (by decide) (Nat.le_of_ble_eq_true rfl) ?_
  intro p e s m below meth c ls X hr hlk hnm hW hS hl
  have hx := X.1.1
  have hb := X.1.2.1
  have hG := X.1.2.2.2.2
  have hA24 := hs.2.2.1
  have hK30 := hs.2.2.2.1
  have hl : lv_has ls 2 [(0, .ref (ad 13 0)), (1, .int a)] := hl
  refine lv_aload_n hx hb dX5_words_0 rfl (lv_at hl 0 rfl) ?_
  refine lv_iload_n hx hb dX5_words_1 rfl (lv_at hl 1 rfl) ?_
  refine w_cV1 X hS (m_X5_is l G ad nA nK mA mK E I J a hs) rfl rfl g615 g4 g612 g614 p30 hd_X5_is ⟨Nat.le_of_ble_eq_true rfl, Nat.le_of_ble_eq_true rfl⟩ (k_rec X hW 13 0 Nat.zero_lt_one rfl rfl) hW hl.1 rfl (Nat.le_of_ble_eq_true rfl) dX5_words_2 (Nat.zero_le _) (Nat.zero_le _) (fun H locs hW hS => ?_)
  refine lb_if_ne (tgt := 12) hx hb dX5_words_5 (by decide) (fun c_1 => ?_) (fun c_1 => ?_)
  · skip
    obtain ⟨i2, hi2, rfl⟩ := mIs_nat (by omega) c_1
    have hk2 : kAns mA (nI i2) = some i2 := kAns_lt hi2 (by omega)
    have hl : lv_has ls 2 [(0, .ref (ad 13 0)), (1, .int (nI i2))] := hl
    refine lv_aload_n hx hb dX5_words_12 rfl (lv_at hl 0 rfl) ?_
    refine w_cVv X hS (m_X5_work l G ad nA nK mA mK E I J  hs) rfl rfl g631 g4 g628 g630 p32 hd_X5_work ⟨Nat.le_of_ble_eq_true rfl, Nat.le_of_ble_eq_true rfl⟩ (k_rec X hW 13 0 Nat.zero_lt_one rfl rfl) hW hl.1 rfl (Nat.le_of_ble_eq_true rfl) dX5_words_13 (Nat.zero_le _) (Nat.zero_le _) (fun H locs hW hS => ?_)
    obtain ⟨I3, eI3⟩ : ∃ z, z = (mWork E mA (I, J)).1 := ⟨_, rfl⟩
    rw [← eI3] at hW
    have hs3 : m_S mA mK E I3 := by rw [eI3]; exact (mWork_S (s := (I, J)) hs)
    obtain ⟨J3, eJ3⟩ : ∃ z, z = (mWork E mA (I, J)).2 := ⟨_, rfl⟩
    rw [← eJ3] at hW
    refine lv_aload_n hx hb dX5_words_16 rfl (lv_at hl 0 rfl) ?_
    refine w_get X hW 13 0 Nat.zero_lt_one rfl rfl inG5 20 (by decide) g518 rfl dX5_words_17 ?_
    refine lv_iload_n hx hb dX5_words_20 rfl (lv_at hl 1 rfl) ?_
    refine w_laldN (i := i2) X hW 40 0 Nat.zero_lt_one rfl (by omega) dX5_words_21 ?_
    exact w_lret X hr hlk hS (by first | rfl | (simp [mcWords, c_1, hk2, eI3, eJ3]; done) | (subst eJ3 eI3; simp [mcWords, c_1, hk2]; done) | (simp [mcWords, c_1, hk2, eI3, eJ3]; rfl)) (hW.to (by first | rfl | (subst eJ3 eI3; simp [mcWords, c_1, hk2]; done) | (subst eJ3 eI3; rfl) | (subst eJ3 eI3; simp [mcWords, c_1, hk2]; done) | (subst eJ3 eI3; simp [mcWords, c_1, hk2]; rfl) | (simp [mcWords, c_1, hk2, eI3, eJ3]; done)) (by first | rfl | (subst eJ3 eI3; simp [mcWords, c_1, hk2]; done) | (subst eJ3 eI3; rfl) | (subst eJ3 eI3; simp [mcWords, c_1, hk2]; done) | (subst eJ3 eI3; simp [mcWords, c_1, hk2]; rfl) | (simp [mcWords, c_1, hk2, eI3, eJ3]; done))) dX5_words_22
  · skip
    have hk4 : kAns mA a = none := mIs_none (by omega) c_1
    refine lv_ldc2 hx hb X.1.2.2.2.1 (hG _ g680) dX5_words_8 ?_
    exact w_lret X hr hlk hS (by first | rfl | (simp [mcWords, c_1, hk4]; done) | (simp [mcWords, c_1, hk4]; rfl)) (hW.to (by first | rfl | (simp [mcWords, c_1, hk4]; done)) (by first | rfl | (simp [mcWords, c_1, hk4]; done))) dX5_words_11
set_option maxHeartbeats 4000000 in
set_option maxRecDepth 100000 in
theorem m_X5_holds (l : Launch) (G : k_G) (ad : Nat → Nat → Nat) (nA nK : Nat) (mA mK : Nat) (E : Nat → Nat) (I : k_I) (J : k_J) (a : Int32) (x : Int32) (y : Int32) (z : Int32) (hs : m_S mA mK E I) : k_Met l yX5_holds cX5_holds 6 (some FieldType.int) { frames := 3, cells := 0, slots := 0, locals := 69 } G [.ref (ad 13 0), .int a, .int x, .int y, .int z] (Wd G ad nA nK I J) (some (.int ((mcHolds E mA a x y z (I, J)).1))) (Wd G ad nA nK ((mcHolds E mA a x y z (I, J)).2.1) ((mcHolds E mA a x y z (I, J)).2.2)) 0 0 := by
  refine k_body (by decide) (Nat.le_of_ble_eq_true rfl) ?_
  intro p e s m below meth c ls X hr hlk hnm hW hS hl
  have hx := X.1.1
  have hb := X.1.2.1
  have hG := X.1.2.2.2.2
  have hA24 := hs.2.2.1
  have hK30 := hs.2.2.2.1
  have hl : lv_has ls 6 [(0, .ref (ad 13 0)), (1, .int a), (2, .int x), (3, .int y), (4, .int z)] := hl
  refine lv_aload_n hx hb dX5_holds_0 rfl (lv_at hl 0 rfl) ?_
  refine lv_iload_n hx hb dX5_holds_1 rfl (lv_at hl 1 rfl) ?_
  refine w_cV1 X hS (m_X5_is l G ad nA nK mA mK E I J a hs) rfl rfl g615 g4 g612 g614 p30 hd_X5_is ⟨Nat.le_of_ble_eq_true rfl, Nat.le_of_ble_eq_true rfl⟩ (k_rec X hW 13 0 Nat.zero_lt_one rfl rfl) hW hl.1 rfl (Nat.le_of_ble_eq_true rfl) dX5_holds_2 (Nat.zero_le _) (Nat.zero_le _) (fun H locs hW hS => ?_)
  refine lb_if_ne (tgt := 12) hx hb dX5_holds_5 (by decide) (fun c_1 => ?_) (fun c_1 => ?_)
  · skip
    obtain ⟨i2, hi2, rfl⟩ := mIs_nat (by omega) c_1
    have hk2 : kAns mA (nI i2) = some i2 := kAns_lt hi2 (by omega)
    have hl : lv_has ls 6 [(0, .ref (ad 13 0)), (1, .int (nI i2)), (2, .int x), (3, .int y), (4, .int z)] := hl
    refine lv_iconst (v := 0) hx hb dX5_holds_12 (by decide) ?_
    refine lv_iload_n hx hb dX5_holds_13 rfl (lv_at hl 2 rfl) ?_
    refine w_cS1 X hS (m_X5_isValue l G (Wd G ad nA nK I J) 0 x ) rfl rfl g687 g4 g685 g686 hd_X5_isValue ⟨Nat.le_of_ble_eq_true rfl, Nat.le_of_ble_eq_true rfl⟩ hW hl.1 rfl (Nat.le_of_ble_eq_true rfl) dX5_holds_14 (Nat.zero_le _) (Nat.zero_le _) (fun H locs hW hS => ?_)
    refine lb_if_eq (tgt := 37) hx hb dX5_holds_17 (by decide) (fun c_3 => ?_) (fun c_3 => ?_)
    · skip
      refine lv_sipush (v := (-1002)) hx hb dX5_holds_37 (by decide) ?_
      exact w_iret X hr hlk hS (by first | rfl | (simp [mcHolds, mHas, k_b, c_1, hk2, c_3]; done) | (simp [mcHolds, mHas, k_b, c_1, hk2, c_3]; rfl)) (hW.to (by first | rfl | (simp [mcHolds, mHas, k_b, c_1, hk2, c_3]; done)) (by first | rfl | (simp [mcHolds, mHas, k_b, c_1, hk2, c_3]; done))) dX5_holds_40
    · skip
      refine lv_iconst (v := 1) hx hb dX5_holds_20 (by decide) ?_
      refine lv_iload_n hx hb dX5_holds_21 rfl (lv_at hl 3 rfl) ?_
      refine w_cS1 X hS (m_X5_isValue l G (Wd G ad nA nK I J) 1 y ) rfl rfl g687 g4 g685 g686 hd_X5_isValue ⟨Nat.le_of_ble_eq_true rfl, Nat.le_of_ble_eq_true rfl⟩ hW hl.1 rfl (Nat.le_of_ble_eq_true rfl) dX5_holds_22 (Nat.zero_le _) (Nat.zero_le _) (fun H locs hW hS => ?_)
      refine lb_if_eq (tgt := 37) hx hb dX5_holds_25 (by decide) (fun c_4 => ?_) (fun c_4 => ?_)
      · skip
        refine lv_sipush (v := (-1002)) hx hb dX5_holds_37 (by decide) ?_
        exact w_iret X hr hlk hS (by first | rfl | (simp [mcHolds, mHas, k_b, c_1, hk2, c_3, c_4]; done) | (simp [mcHolds, mHas, k_b, c_1, hk2, c_3, c_4]; rfl)) (hW.to (by first | rfl | (simp [mcHolds, mHas, k_b, c_1, hk2, c_3, c_4]; done)) (by first | rfl | (simp [mcHolds, mHas, k_b, c_1, hk2, c_3, c_4]; done))) dX5_holds_40
      · skip
        refine lv_iconst (v := 2) hx hb dX5_holds_28 (by decide) ?_
        refine lv_iload hx hb dX5_holds_29 (lv_at hl 4 rfl) ?_
        refine w_cS1 X hS (m_X5_isValue l G (Wd G ad nA nK I J) 2 z ) rfl rfl g687 g4 g685 g686 hd_X5_isValue ⟨Nat.le_of_ble_eq_true rfl, Nat.le_of_ble_eq_true rfl⟩ hW hl.1 rfl (Nat.le_of_ble_eq_true rfl) dX5_holds_31 (Nat.zero_le _) (Nat.zero_le _) (fun H locs hW hS => ?_)
        refine lb_if_ne (tgt := 41) hx hb dX5_holds_34 (by decide) (fun c_5 => ?_) (fun c_5 => ?_)
        · skip
          refine lv_aload_n hx hb dX5_holds_41 rfl (lv_at hl 0 rfl) ?_
          refine w_cVv X hS (m_X5_work l G ad nA nK mA mK E I J  hs) rfl rfl g631 g4 g628 g630 p32 hd_X5_work ⟨Nat.le_of_ble_eq_true rfl, Nat.le_of_ble_eq_true rfl⟩ (k_rec X hW 13 0 Nat.zero_lt_one rfl rfl) hW hl.1 rfl (Nat.le_of_ble_eq_true rfl) dX5_holds_42 (Nat.zero_le _) (Nat.zero_le _) (fun H locs hW hS => ?_)
          obtain ⟨I6, eI6⟩ : ∃ z, z = (mWork E mA (I, J)).1 := ⟨_, rfl⟩
          rw [← eI6] at hW
          have hs6 : m_S mA mK E I6 := by rw [eI6]; exact (mWork_S (s := (I, J)) hs)
          obtain ⟨J6, eJ6⟩ : ∃ z, z = (mWork E mA (I, J)).2 := ⟨_, rfl⟩
          rw [← eJ6] at hW
          refine lv_aload_n hx hb dX5_holds_45 rfl (lv_at hl 0 rfl) ?_
          refine w_get X hW 13 0 Nat.zero_lt_one rfl rfl inG5 8 (by decide) g506 rfl dX5_holds_46 ?_
          refine lv_iload_n hx hb dX5_holds_49 rfl (lv_at hl 1 rfl) ?_
          refine w_ialdN (i := i2) X hW 28 0 Nat.zero_lt_one rfl (by omega) dX5_holds_50 ?_
          refine lv_if_ge (tgt := 111) hx hb dX5_holds_51 (by decide) (fun c_7 => ?_) (fun c_7 => ?_)
          · skip
            have c_7' : ¬ I6 28 0 i2 < 0 := Int32.not_lt.mpr c_7
            refine lv_iconst (v := 0) hx hb dX5_holds_111 (by decide) ?_
            refine lv_istore (lv' := [(5, .int 0), (0, .ref (ad 13 0)), (1, .int (nI i2)), (2, .int x), (3, .int y), (4, .int z)]) hx hb dX5_holds_112 hl (by decide) rfl (fun ls hl => ?_)
            refine lv_iload hx hb dX5_holds_114 (lv_at hl 0 rfl) ?_
            refine lv_if_eq (tgt := 123) hx hb dX5_holds_116 (by decide) (fun _ => ?_) (fun c_8 => absurd (by decide) c_8)
            refine lv_iconst (v := 0) hx hb dX5_holds_123 (by decide) ?_
            exact w_iret X hr hlk hS (by first | rfl | (simp [mcHolds, mHas, k_b, c_1, hk2, c_3, c_4, c_5, c_7, c_7', eI6, eJ6]; done) | (subst eJ6 eI6; simp [mcHolds, mHas, k_b, c_1, hk2, c_3, c_4, c_5, c_7, c_7']; done) | (simp [mcHolds, mHas, k_b, c_1, hk2, c_3, c_4, c_5, c_7, c_7', eI6, eJ6]; rfl)) (hW.to (by first | rfl | (subst eJ6 eI6; simp [mcHolds, mHas, k_b, c_1, hk2, c_3, c_4, c_5, c_7, c_7']; done) | (subst eJ6 eI6; rfl) | (subst eJ6 eI6; simp [mcHolds, mHas, k_b, c_1, hk2, c_3, c_4, c_5, c_7, c_7']; done) | (subst eJ6 eI6; simp [mcHolds, mHas, k_b, c_1, hk2, c_3, c_4, c_5, c_7, c_7']; rfl) | (simp [mcHolds, mHas, k_b, c_1, hk2, c_3, c_4, c_5, c_7, c_7', eI6, eJ6]; done)) (by first | rfl | (subst eJ6 eI6; simp [mcHolds, mHas, k_b, c_1, hk2, c_3, c_4, c_5, c_7, c_7']; done) | (subst eJ6 eI6; rfl) | (subst eJ6 eI6; simp [mcHolds, mHas, k_b, c_1, hk2, c_3, c_4, c_5, c_7, c_7']; done) | (subst eJ6 eI6; simp [mcHolds, mHas, k_b, c_1, hk2, c_3, c_4, c_5, c_7, c_7']; rfl) | (simp [mcHolds, mHas, k_b, c_1, hk2, c_3, c_4, c_5, c_7, c_7', eI6, eJ6]; done))) dX5_holds_124
          · skip
            have c_7' : I6 28 0 i2 < 0 := Int32.not_le.mp c_7
            refine lv_aload_n hx hb dX5_holds_54 rfl (lv_at hl 0 rfl) ?_
            refine w_get X hW 13 0 Nat.zero_lt_one rfl rfl inG5 21 (by decide) g519 rfl dX5_holds_55 ?_
            refine lv_iconst (v := 3) hx hb dX5_holds_58 (by decide) ?_
            refine lv_iload_n hx hb dX5_holds_59 rfl (lv_at hl 1 rfl) ?_
            refine lw_imulN (a := 3) (b := i2) hx hb dX5_holds_60 ?_
            refine w_ialdN (i := 3 * i2) X hW 41 0 Nat.zero_lt_one rfl (by omega) dX5_holds_61 ?_
            refine lv_iload_n hx hb dX5_holds_62 rfl (lv_at hl 2 rfl) ?_
            refine lv_ishr hx hb dX5_holds_63 ?_
            refine lv_iconst (v := 1) hx hb dX5_holds_64 (by decide) ?_
            refine lv_iand hx hb dX5_holds_65 ?_
            refine lv_iconst (v := 1) hx hb dX5_holds_66 (by decide) ?_
            refine lv_icmp_ne (tgt := 111) hx hb dX5_holds_67 (by decide) (fun c_9 => ?_) (fun c_9 => ?_)
            · skip
              refine lv_iconst (v := 0) hx hb dX5_holds_111 (by decide) ?_
              refine lv_istore (lv' := [(5, .int 0), (0, .ref (ad 13 0)), (1, .int (nI i2)), (2, .int x), (3, .int y), (4, .int z)]) hx hb dX5_holds_112 hl (by decide) rfl (fun ls hl => ?_)
              refine lv_iload hx hb dX5_holds_114 (lv_at hl 0 rfl) ?_
              refine lv_if_eq (tgt := 123) hx hb dX5_holds_116 (by decide) (fun _ => ?_) (fun c_10 => absurd (by decide) c_10)
              refine lv_iconst (v := 0) hx hb dX5_holds_123 (by decide) ?_
              exact w_iret X hr hlk hS (by first | rfl | (simp [mcHolds, mHas, k_b, c_1, hk2, c_3, c_4, c_5, c_7, c_7', c_9, eI6, eJ6]; done) | (subst eJ6 eI6; simp [mcHolds, mHas, k_b, c_1, hk2, c_3, c_4, c_5, c_7, c_7', c_9]; done) | (simp [mcHolds, mHas, k_b, c_1, hk2, c_3, c_4, c_5, c_7, c_7', c_9, eI6, eJ6]; rfl)) (hW.to (by first | rfl | (subst eJ6 eI6; simp [mcHolds, mHas, k_b, c_1, hk2, c_3, c_4, c_5, c_7, c_7', c_9]; done) | (subst eJ6 eI6; rfl) | (subst eJ6 eI6; simp [mcHolds, mHas, k_b, c_1, hk2, c_3, c_4, c_5, c_7, c_7', c_9]; done) | (subst eJ6 eI6; simp [mcHolds, mHas, k_b, c_1, hk2, c_3, c_4, c_5, c_7, c_7', c_9]; rfl) | (simp [mcHolds, mHas, k_b, c_1, hk2, c_3, c_4, c_5, c_7, c_7', c_9, eI6, eJ6]; done)) (by first | rfl | (subst eJ6 eI6; simp [mcHolds, mHas, k_b, c_1, hk2, c_3, c_4, c_5, c_7, c_7', c_9]; done) | (subst eJ6 eI6; rfl) | (subst eJ6 eI6; simp [mcHolds, mHas, k_b, c_1, hk2, c_3, c_4, c_5, c_7, c_7', c_9]; done) | (subst eJ6 eI6; simp [mcHolds, mHas, k_b, c_1, hk2, c_3, c_4, c_5, c_7, c_7', c_9]; rfl) | (simp [mcHolds, mHas, k_b, c_1, hk2, c_3, c_4, c_5, c_7, c_7', c_9, eI6, eJ6]; done))) dX5_holds_124
            · skip
              refine lv_aload_n hx hb dX5_holds_70 rfl (lv_at hl 0 rfl) ?_
              refine w_get X hW 13 0 Nat.zero_lt_one rfl rfl inG5 21 (by decide) g519 rfl dX5_holds_71 ?_
              refine lv_iconst (v := 3) hx hb dX5_holds_74 (by decide) ?_
              refine lv_iload_n hx hb dX5_holds_75 rfl (lv_at hl 1 rfl) ?_
              refine lw_imulN (a := 3) (b := i2) hx hb dX5_holds_76 ?_
              refine lv_iconst (v := 1) hx hb dX5_holds_77 (by decide) ?_
              refine lw_iaddN (a := 3 * i2) (b := 1) hx hb dX5_holds_78 ?_
              refine w_ialdN (i := 3 * i2 + 1) X hW 41 0 Nat.zero_lt_one rfl (by omega) dX5_holds_79 ?_
              refine lv_iload_n hx hb dX5_holds_80 rfl (lv_at hl 3 rfl) ?_
              refine lv_ishr hx hb dX5_holds_81 ?_
              refine lv_iconst (v := 1) hx hb dX5_holds_82 (by decide) ?_
              refine lv_iand hx hb dX5_holds_83 ?_
              refine lv_iconst (v := 1) hx hb dX5_holds_84 (by decide) ?_
              refine lv_icmp_ne (tgt := 111) hx hb dX5_holds_85 (by decide) (fun c_11 => ?_) (fun c_11 => ?_)
              · skip
                refine lv_iconst (v := 0) hx hb dX5_holds_111 (by decide) ?_
                refine lv_istore (lv' := [(5, .int 0), (0, .ref (ad 13 0)), (1, .int (nI i2)), (2, .int x), (3, .int y), (4, .int z)]) hx hb dX5_holds_112 hl (by decide) rfl (fun ls hl => ?_)
                refine lv_iload hx hb dX5_holds_114 (lv_at hl 0 rfl) ?_
                refine lv_if_eq (tgt := 123) hx hb dX5_holds_116 (by decide) (fun _ => ?_) (fun c_12 => absurd (by decide) c_12)
                refine lv_iconst (v := 0) hx hb dX5_holds_123 (by decide) ?_
                exact w_iret X hr hlk hS (by first | rfl | (simp [mcHolds, mHas, k_b, c_1, hk2, c_3, c_4, c_5, c_7, c_7', c_9, c_11, eI6, eJ6]; done) | (subst eJ6 eI6; simp [mcHolds, mHas, k_b, c_1, hk2, c_3, c_4, c_5, c_7, c_7', c_9, c_11]; done) | (simp [mcHolds, mHas, k_b, c_1, hk2, c_3, c_4, c_5, c_7, c_7', c_9, c_11, eI6, eJ6]; rfl)) (hW.to (by first | rfl | (subst eJ6 eI6; simp [mcHolds, mHas, k_b, c_1, hk2, c_3, c_4, c_5, c_7, c_7', c_9, c_11]; done) | (subst eJ6 eI6; rfl) | (subst eJ6 eI6; simp [mcHolds, mHas, k_b, c_1, hk2, c_3, c_4, c_5, c_7, c_7', c_9, c_11]; done) | (subst eJ6 eI6; simp [mcHolds, mHas, k_b, c_1, hk2, c_3, c_4, c_5, c_7, c_7', c_9, c_11]; rfl) | (simp [mcHolds, mHas, k_b, c_1, hk2, c_3, c_4, c_5, c_7, c_7', c_9, c_11, eI6, eJ6]; done)) (by first | rfl | (subst eJ6 eI6; simp [mcHolds, mHas, k_b, c_1, hk2, c_3, c_4, c_5, c_7, c_7', c_9, c_11]; done) | (subst eJ6 eI6; rfl) | (subst eJ6 eI6; simp [mcHolds, mHas, k_b, c_1, hk2, c_3, c_4, c_5, c_7, c_7', c_9, c_11]; done) | (subst eJ6 eI6; simp [mcHolds, mHas, k_b, c_1, hk2, c_3, c_4, c_5, c_7, c_7', c_9, c_11]; rfl) | (simp [mcHolds, mHas, k_b, c_1, hk2, c_3, c_4, c_5, c_7, c_7', c_9, c_11, eI6, eJ6]; done))) dX5_holds_124
              · skip
                refine lv_aload_n hx hb dX5_holds_88 rfl (lv_at hl 0 rfl) ?_
                refine w_get X hW 13 0 Nat.zero_lt_one rfl rfl inG5 21 (by decide) g519 rfl dX5_holds_89 ?_
                refine lv_iconst (v := 3) hx hb dX5_holds_92 (by decide) ?_
                refine lv_iload_n hx hb dX5_holds_93 rfl (lv_at hl 1 rfl) ?_
                refine lw_imulN (a := 3) (b := i2) hx hb dX5_holds_94 ?_
                refine lv_iconst (v := 2) hx hb dX5_holds_95 (by decide) ?_
                refine lw_iaddN (a := 3 * i2) (b := 2) hx hb dX5_holds_96 ?_
                refine w_ialdN (i := 3 * i2 + 2) X hW 41 0 Nat.zero_lt_one rfl (by omega) dX5_holds_97 ?_
                refine lv_iload hx hb dX5_holds_98 (lv_at hl 4 rfl) ?_
                refine lv_ishr hx hb dX5_holds_100 ?_
                refine lv_iconst (v := 1) hx hb dX5_holds_101 (by decide) ?_
                refine lv_iand hx hb dX5_holds_102 ?_
                refine lv_iconst (v := 1) hx hb dX5_holds_103 (by decide) ?_
                refine lv_icmp_ne (tgt := 111) hx hb dX5_holds_104 (by decide) (fun c_13 => ?_) (fun c_13 => ?_)
                · skip
                  refine lv_iconst (v := 0) hx hb dX5_holds_111 (by decide) ?_
                  refine lv_istore (lv' := [(5, .int 0), (0, .ref (ad 13 0)), (1, .int (nI i2)), (2, .int x), (3, .int y), (4, .int z)]) hx hb dX5_holds_112 hl (by decide) rfl (fun ls hl => ?_)
                  refine lv_iload hx hb dX5_holds_114 (lv_at hl 0 rfl) ?_
                  refine lv_if_eq (tgt := 123) hx hb dX5_holds_116 (by decide) (fun _ => ?_) (fun c_14 => absurd (by decide) c_14)
                  refine lv_iconst (v := 0) hx hb dX5_holds_123 (by decide) ?_
                  exact w_iret X hr hlk hS (by first | rfl | (simp [mcHolds, mHas, k_b, c_1, hk2, c_3, c_4, c_5, c_7, c_7', c_9, c_11, c_13, eI6, eJ6]; done) | (subst eJ6 eI6; simp [mcHolds, mHas, k_b, c_1, hk2, c_3, c_4, c_5, c_7, c_7', c_9, c_11, c_13]; done) | (simp [mcHolds, mHas, k_b, c_1, hk2, c_3, c_4, c_5, c_7, c_7', c_9, c_11, c_13, eI6, eJ6]; rfl)) (hW.to (by first | rfl | (subst eJ6 eI6; simp [mcHolds, mHas, k_b, c_1, hk2, c_3, c_4, c_5, c_7, c_7', c_9, c_11, c_13]; done) | (subst eJ6 eI6; rfl) | (subst eJ6 eI6; simp [mcHolds, mHas, k_b, c_1, hk2, c_3, c_4, c_5, c_7, c_7', c_9, c_11, c_13]; done) | (subst eJ6 eI6; simp [mcHolds, mHas, k_b, c_1, hk2, c_3, c_4, c_5, c_7, c_7', c_9, c_11, c_13]; rfl) | (simp [mcHolds, mHas, k_b, c_1, hk2, c_3, c_4, c_5, c_7, c_7', c_9, c_11, c_13, eI6, eJ6]; done)) (by first | rfl | (subst eJ6 eI6; simp [mcHolds, mHas, k_b, c_1, hk2, c_3, c_4, c_5, c_7, c_7', c_9, c_11, c_13]; done) | (subst eJ6 eI6; rfl) | (subst eJ6 eI6; simp [mcHolds, mHas, k_b, c_1, hk2, c_3, c_4, c_5, c_7, c_7', c_9, c_11, c_13]; done) | (subst eJ6 eI6; simp [mcHolds, mHas, k_b, c_1, hk2, c_3, c_4, c_5, c_7, c_7', c_9, c_11, c_13]; rfl) | (simp [mcHolds, mHas, k_b, c_1, hk2, c_3, c_4, c_5, c_7, c_7', c_9, c_11, c_13, eI6, eJ6]; done))) dX5_holds_124
                · skip
                  refine lv_iconst (v := 1) hx hb dX5_holds_107 (by decide) ?_
                  refine lv_goto (tgt := 112) hx hb dX5_holds_108 (by decide) ?_
                  refine lv_istore (lv' := [(5, .int 1), (0, .ref (ad 13 0)), (1, .int (nI i2)), (2, .int x), (3, .int y), (4, .int z)]) hx hb dX5_holds_112 hl (by decide) rfl (fun ls hl => ?_)
                  refine lv_iload hx hb dX5_holds_114 (lv_at hl 0 rfl) ?_
                  refine lv_if_eq (tgt := 123) hx hb dX5_holds_116 (by decide) (fun c_15 => absurd c_15 (by decide)) (fun _ => ?_)
                  refine lv_iconst (v := 1) hx hb dX5_holds_119 (by decide) ?_
                  refine lv_goto (tgt := 124) hx hb dX5_holds_120 (by decide) ?_
                  exact w_iret X hr hlk hS (by first | rfl | (simp [mcHolds, mHas, k_b, c_1, hk2, c_3, c_4, c_5, c_7, c_7', c_9, c_11, c_13, eI6, eJ6]; done) | (subst eJ6 eI6; simp [mcHolds, mHas, k_b, c_1, hk2, c_3, c_4, c_5, c_7, c_7', c_9, c_11, c_13]; done) | (simp [mcHolds, mHas, k_b, c_1, hk2, c_3, c_4, c_5, c_7, c_7', c_9, c_11, c_13, eI6, eJ6]; rfl)) (hW.to (by first | rfl | (subst eJ6 eI6; simp [mcHolds, mHas, k_b, c_1, hk2, c_3, c_4, c_5, c_7, c_7', c_9, c_11, c_13]; done) | (subst eJ6 eI6; rfl) | (subst eJ6 eI6; simp [mcHolds, mHas, k_b, c_1, hk2, c_3, c_4, c_5, c_7, c_7', c_9, c_11, c_13]; done) | (subst eJ6 eI6; simp [mcHolds, mHas, k_b, c_1, hk2, c_3, c_4, c_5, c_7, c_7', c_9, c_11, c_13]; rfl) | (simp [mcHolds, mHas, k_b, c_1, hk2, c_3, c_4, c_5, c_7, c_7', c_9, c_11, c_13, eI6, eJ6]; done)) (by first | rfl | (subst eJ6 eI6; simp [mcHolds, mHas, k_b, c_1, hk2, c_3, c_4, c_5, c_7, c_7', c_9, c_11, c_13]; done) | (subst eJ6 eI6; rfl) | (subst eJ6 eI6; simp [mcHolds, mHas, k_b, c_1, hk2, c_3, c_4, c_5, c_7, c_7', c_9, c_11, c_13]; done) | (subst eJ6 eI6; simp [mcHolds, mHas, k_b, c_1, hk2, c_3, c_4, c_5, c_7, c_7', c_9, c_11, c_13]; rfl) | (simp [mcHolds, mHas, k_b, c_1, hk2, c_3, c_4, c_5, c_7, c_7', c_9, c_11, c_13, eI6, eJ6]; done))) dX5_holds_124
        · skip
          refine lv_sipush (v := (-1002)) hx hb dX5_holds_37 (by decide) ?_
          exact w_iret X hr hlk hS (by first | rfl | (simp [mcHolds, mHas, k_b, c_1, hk2, c_3, c_4, c_5]; done) | (simp [mcHolds, mHas, k_b, c_1, hk2, c_3, c_4, c_5]; rfl)) (hW.to (by first | rfl | (simp [mcHolds, mHas, k_b, c_1, hk2, c_3, c_4, c_5]; done)) (by first | rfl | (simp [mcHolds, mHas, k_b, c_1, hk2, c_3, c_4, c_5]; done))) dX5_holds_40
  · skip
    have hk16 : kAns mA a = none := mIs_none (by omega) c_1
    refine lv_sipush (v := (-1001)) hx hb dX5_holds_8 (by decide) ?_
    exact w_iret X hr hlk hS (by first | rfl | (simp [mcHolds, mHas, k_b, c_1, hk16]; done) | (simp [mcHolds, mHas, k_b, c_1, hk16]; rfl)) (hW.to (by first | rfl | (simp [mcHolds, mHas, k_b, c_1, hk16]; done)) (by first | rfl | (simp [mcHolds, mHas, k_b, c_1, hk16]; done))) dX5_holds_11
