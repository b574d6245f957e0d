set_option maxHeartbeats 4000000 in
set_option maxRecDepth 100000 in
theorem m_X4_fold (l : Launch) (G : k_G) (ad : Nat → Nat → Nat) (nA nK : Nat) (I : k_I) (J : k_J) (w : Int32) (t : Int32) (hs : k_S nA nK I) : k_Met l yX4_fold cX4_fold 4 (some FieldType.int) { frames := 5, cells := 0, slots := 0, locals := 112 } G [.ref (ad 0 0), .int w, .int t] (Wd G ad nA nK I J) (some (.int ((cFold nA nK w t (I, J)).1))) (Wd G ad nA nK ((cFold nA nK w t (I, J)).2.1) ((cFold nA nK w t (I, J)).2.2)) 0 0 := by
  refine k_body (by decide) (Nat.le_of_ble_eq_true rfl) ?_
  intro p e s m below meth c ls X hr hlk hnm hW hS hl
  have hx := X.1.1
  have hb := X.1.2.1
  have hG := X.1.2.2.2.2
  have hA24 := hs.2.2.1
  have hK30 := hs.2.2.2.1
  have hl : lv_has ls 4 [(0, .ref (ad 0 0)), (1, .int w), (2, .int t)] := hl
  refine lv_iload_n hx hb dX4_fold_0 rfl (lv_at hl 1 rfl) ?_
  refine w_cS1 X hS (m_X4_isWord l G (Wd G ad nA nK I J) w ) rfl rfl g80 g1 g78 g79 hd_X4_isWord ⟨Nat.le_of_ble_eq_true rfl, Nat.le_of_ble_eq_true rfl⟩ hW hl.1 rfl (Nat.le_of_ble_eq_true rfl) dX4_fold_1 (Nat.zero_le _) (Nat.zero_le _) (fun H locs hW hS => ?_)
  refine lb_if_eq (tgt := 14) hx hb dX4_fold_4 (by decide) (fun c_1 => ?_) (fun c_1 => ?_)
  · skip
    refine lv_sipush (v := (-1002)) hx hb dX4_fold_14 (by decide) ?_
    exact w_iret X hr hlk hS (by first | rfl | (simp [cFold, c_1]; done) | (simp [cFold, c_1]; rfl)) (hW.to (by first | rfl | (simp [cFold, c_1]; done)) (by first | rfl | (simp [cFold, c_1]; done))) dX4_fold_17
  · skip
    refine lv_iload_n hx hb dX4_fold_7 rfl (lv_at hl 2 rfl) ?_
    refine w_cS1 X hS (m_X4_isWord l G (Wd G ad nA nK I J) t ) rfl rfl g80 g1 g78 g79 hd_X4_isWord ⟨Nat.le_of_ble_eq_true rfl, Nat.le_of_ble_eq_true rfl⟩ hW hl.1 rfl (Nat.le_of_ble_eq_true rfl) dX4_fold_8 (Nat.zero_le _) (Nat.zero_le _) (fun H locs hW hS => ?_)
    refine lb_if_ne (tgt := 18) hx hb dX4_fold_11 (by decide) (fun c_2 => ?_) (fun c_2 => ?_)
    · skip
      refine lv_aload_n hx hb dX4_fold_18 rfl (lv_at hl 0 rfl) ?_
      refine w_get X hW 0 0 Nat.zero_lt_one rfl rfl inG4 0 (by decide) g49 rfl dX4_fold_19 ?_
      refine lv_iload_n hx hb dX4_fold_22 rfl (lv_at hl 1 rfl) ?_
      refine w_cV1 X hS (m_X2_foldOf l G ad nA nK I J w ) rfl rfl g87 g2 g84 g85 g86 hd_X2_foldOf ⟨Nat.le_of_ble_eq_true rfl, Nat.le_of_ble_eq_true rfl⟩ (k_rec X hW 1 0 Nat.zero_lt_one rfl rfl) hW hl.1 rfl (Nat.le_of_ble_eq_true rfl) dX4_fold_23 (Nat.zero_le _) (Nat.zero_le _) (fun H locs hW hS => ?_)
      refine lv_istore_n (lv' := [(3, .int (kFoldOf I w)), (0, .ref (ad 0 0)), (1, .int w), (2, .int t)]) hx hb dX4_fold_26 rfl hl (by decide) rfl (fun ls hl => ?_)
      refine lv_aload_n hx hb dX4_fold_27 rfl (lv_at hl 1 rfl) ?_
      refine w_get X hW 0 0 Nat.zero_lt_one rfl rfl inG4 0 (by decide) g49 rfl dX4_fold_28 ?_
      refine lv_iload_n hx hb dX4_fold_31 rfl (lv_at hl 2 rfl) ?_
      refine lv_iload_n hx hb dX4_fold_32 rfl (lv_at hl 3 rfl) ?_
      refine w_cVv X hS (m_X2_turn l G ad nA nK I J w t ) rfl rfl g91 g2 g88 g89 g90 hd_X2_turn ⟨Nat.le_of_ble_eq_true rfl, Nat.le_of_ble_eq_true rfl⟩ (k_rec X hW 1 0 Nat.zero_lt_one rfl rfl) hW hl.1 rfl (Nat.le_of_ble_eq_true rfl) dX4_fold_33 (Nat.zero_le _) (Nat.zero_le _) (fun H locs hW hS => ?_)
      obtain ⟨I3, eI3⟩ : ∃ z, z = kTurn I w t := ⟨_, rfl⟩
      rw [← eI3] at hW
      have hs3 : k_S nA nK I3 := by rw [eI3]; exact (kTurn_S hs)
      refine lv_aload_n hx hb dX4_fold_36 rfl (lv_at hl 1 rfl) ?_
      refine w_cVv X hS (m_X4_settle l G ad nA nK I3 J  hs3) rfl rfl g95 g1 g92 g94 p0 hd_X4_settle ⟨Nat.le_of_ble_eq_true rfl, Nat.le_of_ble_eq_true rfl⟩ (k_rec X hW 0 0 Nat.zero_lt_one rfl rfl) hW hl.1 rfl (Nat.le_of_ble_eq_true rfl) dX4_fold_37 (Nat.zero_le _) (Nat.zero_le _) (fun H locs hW hS => ?_)
      obtain ⟨I4, eI4⟩ : ∃ z, z = (kSettle nA nK (I3, J)).1 := ⟨_, rfl⟩
      rw [← eI4] at hW
      have hs4 : k_S nA nK I4 := by rw [eI4]; exact (kSettle_S (s := (I3, J)) hs3)
      obtain ⟨J4, eJ4⟩ : ∃ z, z = (kSettle nA nK (I3, J)).2 := ⟨_, rfl⟩
      rw [← eJ4] at hW
      refine lv_iload_n hx hb dX4_fold_40 rfl (lv_at hl 0 rfl) ?_
      exact w_iret X hr hlk hS (by first | rfl | (simp [cFold, c_1, c_2, eI3, eI4, eJ4]; done) | (subst eJ4 eI4 eI3; simp [cFold, c_1, c_2]; done) | (simp [cFold, c_1, c_2, eI3, eI4, eJ4]; rfl)) (hW.to (by first | rfl | (subst eJ4 eI4 eI3; simp [cFold, c_1, c_2]; done) | (subst eJ4 eI4 eI3; rfl) | (subst eJ4 eI4 eI3; simp [cFold, c_1, c_2]; done) | (subst eJ4 eI4 eI3; simp [cFold, c_1, c_2]; rfl) | (simp [cFold, c_1, c_2, eI3, eI4, eJ4]; done)) (by first | rfl | (subst eJ4 eI4 eI3; simp [cFold, c_1, c_2]; done) | (subst eJ4 eI4 eI3; rfl) | (subst eJ4 eI4 eI3; simp [cFold, c_1, c_2]; done) | (subst eJ4 eI4 eI3; simp [cFold, c_1, c_2]; rfl) | (simp [cFold, c_1, c_2, eI3, eI4, eJ4]; done))) dX4_fold_41
    · skip
      refine lv_sipush (v := (-1002)) hx hb dX4_fold_14 (by decide) ?_
      exact w_iret X hr hlk hS (by first | rfl | (simp [cFold, c_1, c_2]; done) | (simp [cFold, c_1, c_2]; rfl)) (hW.to (by first | rfl | (simp [cFold, c_1, c_2]; done)) (by first | rfl | (simp [cFold, c_1, c_2]; done))) dX4_fold_17
set_option maxHeartbeats 4000000 in
set_option maxRecDepth 100000 in
theorem m_X4_changed (l : Launch) (G : k_G) (ad : Nat → Nat → Nat) (nA nK : Nat) (I : k_I) (J : k_J) (x : Int32) (hs : k_S nA nK I) : k_Met l yX4_changed cX4_changed 3 (some FieldType.int) { frames := 5, cells := 0, slots := 0, locals := 112 } G [.ref (ad 0 0), .int x] (Wd G ad nA nK I J) (some (.int ((cChanged nA nK x (I, J)).1))) (Wd G ad nA nK ((cChanged nA nK x (I, J)).2.1) ((cChanged nA nK x (I, J)).2.2)) 0 0 := by
  refine k_body (by decide) (Nat.le_of_ble_eq_true rfl) ?_
  intro p e s m below meth c ls X hr hlk hnm hW hS hl
  have hx := X.1.1
  have hb := X.1.2.1
  have hG := X.1.2.2.2.2
  have hA24 := hs.2.2.1
  have hK30 := hs.2.2.2.1
  have hl : lv_has ls 3 [(0, .ref (ad 0 0)), (1, .int x)] := hl
  refine lv_aload_n hx hb dX4_changed_0 rfl (lv_at hl 0 rfl) ?_
  refine w_get X hW 0 0 Nat.zero_lt_one rfl rfl inG4 1 (by decide) g50 rfl dX4_changed_1 ?_
  refine lv_iload_n hx hb dX4_changed_4 rfl (lv_at hl 1 rfl) ?_
  refine w_cV1 X hS (m_X3_change l G ad nA nK I J x ) rfl rfl g164 g3 g161 g162 g163 hd_X3_change ⟨Nat.le_of_ble_eq_true rfl, Nat.le_of_ble_eq_true rfl⟩ (k_rec X hW 3 0 Nat.zero_lt_one rfl rfl) hW hl.1 rfl (Nat.le_of_ble_eq_true rfl) dX4_changed_5 (Nat.zero_le _) (Nat.zero_le _) (fun H locs hW hS => ?_)
  obtain ⟨I1, eI1⟩ : ∃ z, z = kChange I x := ⟨_, rfl⟩
  rw [← eI1] at hW
  have hs1 : k_S nA nK I1 := by rw [eI1]; exact (kChange_S hs)
  refine lv_istore_n (lv' := [(2, .int (kChangeV I x)), (0, .ref (ad 0 0)), (1, .int x)]) hx hb dX4_changed_8 rfl hl (by decide) rfl (fun ls hl => ?_)
  refine lv_aload_n hx hb dX4_changed_9 rfl (lv_at hl 1 rfl) ?_
  refine w_cVv X hS (m_X4_settle l G ad nA nK I1 J  hs1) rfl rfl g95 g1 g92 g94 p0 hd_X4_settle ⟨Nat.le_of_ble_eq_true rfl, Nat.le_of_ble_eq_true rfl⟩ (k_rec X hW 0 0 Nat.zero_lt_one rfl rfl) hW hl.1 rfl (Nat.le_of_ble_eq_true rfl) dX4_changed_10 (Nat.zero_le _) (Nat.zero_le _) (fun H locs hW hS => ?_)
  obtain ⟨I2, eI2⟩ : ∃ z, z = (kSettle nA nK (I1, J)).1 := ⟨_, rfl⟩
  rw [← eI2] at hW
  have hs2 : k_S nA nK I2 := by rw [eI2]; exact (kSettle_S (s := (I1, J)) hs1)
  obtain ⟨J2, eJ2⟩ : ∃ z, z = (kSettle nA nK (I1, J)).2 := ⟨_, rfl⟩
  rw [← eJ2] at hW
  refine lv_iload_n hx hb dX4_changed_13 rfl (lv_at hl 0 rfl) ?_
  exact w_iret X hr hlk hS (by first | rfl | (simp [cChanged, eI1, eI2, eJ2]; done) | (subst eJ2 eI2 eI1; simp [cChanged]; done) | (simp [cChanged, eI1, eI2, eJ2]; rfl)) (hW.to (by first | rfl | (subst eJ2 eI2 eI1; simp [cChanged]; done) | (subst eJ2 eI2 eI1; rfl) | (subst eJ2 eI2 eI1; simp [cChanged]; done) | (subst eJ2 eI2 eI1; simp [cChanged]; rfl) | (simp [cChanged, eI1, eI2, eJ2]; done)) (by first | rfl | (subst eJ2 eI2 eI1; simp [cChanged]; done) | (subst eJ2 eI2 eI1; rfl) | (subst eJ2 eI2 eI1; simp [cChanged]; done) | (subst eJ2 eI2 eI1; simp [cChanged]; rfl) | (simp [cChanged, eI1, eI2, eJ2]; done))) dX4_changed_14
set_option maxHeartbeats 4000000 in
set_option maxRecDepth 100000 in
theorem m_X4_rule (l : Launch) (G : k_G) (ad : Nat → Nat → Nat) (nA nK : Nat) (I : k_I) (J : k_J) (w : Int32) (v : Int32) (hs : k_S nA nK I) : k_Met l yX4_rule cX4_rule 4 (some FieldType.int) { frames := 1, cells := 0, slots := 0, locals := 22 } G [.ref (ad 0 0), .int w, .int v] (Wd G ad nA nK I J) (some (.int ((cRule w v (I, J)).1))) (Wd G ad nA nK ((cRule w v (I, J)).2.1) ((cRule w v (I, J)).2.2)) 0 0 := by
  refine k_body (by decide) (Nat.le_of_ble_eq_true rfl) ?_
  intro p e s m below meth c ls X hr hlk hnm hW hS hl
  have hx := X.1.1
  have hb := X.1.2.1
  have hG := X.1.2.2.2.2
  have hA24 := hs.2.2.1
  have hK30 := hs.2.2.2.1
  have hl : lv_has ls 4 [(0, .ref (ad 0 0)), (1, .int w), (2, .int v)] := hl
  refine lv_iload_n hx hb dX4_rule_0 rfl (lv_at hl 1 rfl) ?_
  refine lv_if_ne (tgt := 26) hx hb dX4_rule_1 (by decide) (fun c_1 => ?_) (fun c_1 => ?_)
  · skip
    refine lv_iload_n hx hb dX4_rule_26 rfl (lv_at hl 1 rfl) ?_
    refine lv_iconst (v := 1) hx hb dX4_rule_27 (by decide) ?_
    refine lv_icmp_ne (tgt := 54) hx hb dX4_rule_28 (by decide) (fun c_2 => ?_) (fun c_2 => ?_)
    · skip
      refine lv_sipush (v := (-1002)) hx hb dX4_rule_54 (by decide) ?_
      exact w_iret X hr hlk hS (by first | rfl | (simp [cRule, c_1, c_2]; done) | (simp [cRule, c_1, c_2]; rfl)) (hW.to (by first | rfl | (simp [cRule, c_1, c_2]; done)) (by first | rfl | (simp [cRule, c_1, c_2]; done))) dX4_rule_57
    · skip
      refine lv_iload_n hx hb dX4_rule_31 rfl (lv_at hl 2 rfl) ?_
      refine lv_iconst (v := 0) hx hb dX4_rule_32 (by decide) ?_
      refine lv_sipush (v := 200) hx hb dX4_rule_33 (by decide) ?_
      refine w_cS1 X hS (m_X4_within l G (Wd G ad nA nK I J) v 0 200 ) rfl rfl g83 g1 g81 g82 hd_X4_within ⟨Nat.le_of_ble_eq_true rfl, Nat.le_of_ble_eq_true rfl⟩ hW hl.1 rfl (Nat.le_of_ble_eq_true rfl) dX4_rule_36 (Nat.zero_le _) (Nat.zero_le _) (fun H locs hW hS => ?_)
      refine lb_if_eq (tgt := 54) hx hb dX4_rule_39 (by decide) (fun c_3 => ?_) (fun c_3 => ?_)
      · skip
        refine lv_sipush (v := (-1002)) hx hb dX4_rule_54 (by decide) ?_
        exact w_iret X hr hlk hS (by first | rfl | (simp [cRule, c_1, c_2, c_3]; done) | (subst c_2; simp [cRule, c_1, c_3]; done) | (simp [cRule, c_1, c_2, c_3]; rfl)) (hW.to (by first | rfl | (simp [cRule, c_1, c_2, c_3]; done)) (by first | rfl | (simp [cRule, c_1, c_2, c_3]; done))) dX4_rule_57
      · skip
        refine lv_aload_n hx hb dX4_rule_42 rfl (lv_at hl 0 rfl) ?_
        refine w_get X hW 0 0 Nat.zero_lt_one rfl rfl inG4 7 (by decide) g56 rfl dX4_rule_43 ?_
        refine lv_istore_n (lv' := [(3, .int (I 0 0 7)), (0, .ref (ad 0 0)), (1, .int w), (2, .int v)]) hx hb dX4_rule_46 rfl hl (by decide) rfl (fun ls hl => ?_)
        refine lv_aload_n hx hb dX4_rule_47 rfl (lv_at hl 1 rfl) ?_
        refine lv_iload_n hx hb dX4_rule_48 rfl (lv_at hl 3 rfl) ?_
        refine w_puti X hW hS 0 0 Nat.zero_lt_one rfl rfl inG4 tyX4 tyX4_ok nmX4 7 (by decide) g56 rfl rfl rfl (Nat.le_of_ble_eq_true rfl) rfl dX4_rule_49 (fun H locs hW hS => ?_)
        obtain ⟨I4, eI4⟩ : ∃ z, z = k_up I 0 0 (upd (I 0 0) 7 v) := ⟨_, rfl⟩
        rw [← eI4] at hW
        have hs4 : k_S nA nK I4 := by rw [eI4]; exact hs.up0 _ _ (by decide) (by decide)
        refine lv_iload_n hx hb dX4_rule_52 rfl (lv_at hl 0 rfl) ?_
        exact w_iret X hr hlk hS (by first | rfl | (simp [cRule, c_1, c_2, c_3, eI4]; done) | (subst c_2; simp [cRule, c_1, c_3, eI4]; done) | (subst eI4; simp [cRule, c_1, c_2, c_3]; done) | (simp [cRule, c_1, c_2, c_3, eI4]; rfl)) (hW.to (by first | rfl | (subst eI4; simp [cRule, c_1, c_2, c_3]; done) | (subst eI4; rfl) | (subst eI4; simp [cRule, c_1, c_2, c_3]; done) | (subst eI4; simp [cRule, c_1, c_2, c_3]; rfl) | (simp [cRule, c_1, c_2, c_3, eI4]; done)) (by first | rfl | (subst eI4; simp [cRule, c_1, c_2, c_3]; done) | (subst eI4; rfl) | (subst eI4; simp [cRule, c_1, c_2, c_3]; done) | (subst eI4; simp [cRule, c_1, c_2, c_3]; rfl) | (simp [cRule, c_1, c_2, c_3, eI4]; done))) dX4_rule_53
  · skip
    refine lv_iload_n hx hb dX4_rule_4 rfl (lv_at hl 2 rfl) ?_
    refine lv_iconst (v := 0) hx hb dX4_rule_5 (by decide) ?_
    refine lv_bipush (v := 10) hx hb dX4_rule_6 (by decide) ?_
    refine w_cS1 X hS (m_X4_within l G (Wd G ad nA nK I J) v 0 10 ) rfl rfl g83 g1 g81 g82 hd_X4_within ⟨Nat.le_of_ble_eq_true rfl, Nat.le_of_ble_eq_true rfl⟩ hW hl.1 rfl (Nat.le_of_ble_eq_true rfl) dX4_rule_8 (Nat.zero_le _) (Nat.zero_le _) (fun H locs hW hS => ?_)
    refine lb_if_eq (tgt := 26) hx hb dX4_rule_11 (by decide) (fun c_5 => ?_) (fun c_5 => ?_)
    · skip
      refine lv_iload_n hx hb dX4_rule_26 rfl (lv_at hl 1 rfl) ?_
      refine lv_iconst (v := 1) hx hb dX4_rule_27 (by decide) ?_
      refine lv_icmp_ne (tgt := 54) hx hb dX4_rule_28 (by decide) (fun _ => ?_) (fun c_6 => absurd (c_1.symm.trans c_6) (by decide))
      refine lv_sipush (v := (-1002)) hx hb dX4_rule_54 (by decide) ?_
      exact w_iret X hr hlk hS (by first | rfl | (simp [cRule, c_1, c_5]; done) | (subst c_1; simp [cRule, c_5]; done) | (simp [cRule, c_1, c_5]; rfl)) (hW.to (by first | rfl | (simp [cRule, c_1, c_5]; done)) (by first | rfl | (simp [cRule, c_1, c_5]; done))) dX4_rule_57
    · skip
      refine lv_aload_n hx hb dX4_rule_14 rfl (lv_at hl 0 rfl) ?_
      refine w_get X hW 0 0 Nat.zero_lt_one rfl rfl inG4 6 (by decide) g55 rfl dX4_rule_15 ?_
      refine lv_istore_n (lv' := [(3, .int (I 0 0 6)), (0, .ref (ad 0 0)), (1, .int w), (2, .int v)]) hx hb dX4_rule_18 rfl hl (by decide) rfl (fun ls hl => ?_)
      refine lv_aload_n hx hb dX4_rule_19 rfl (lv_at hl 1 rfl) ?_
      refine lv_iload_n hx hb dX4_rule_20 rfl (lv_at hl 3 rfl) ?_
      refine w_puti X hW hS 0 0 Nat.zero_lt_one rfl rfl inG4 tyX4 tyX4_ok nmX4 6 (by decide) g55 rfl rfl rfl (Nat.le_of_ble_eq_true rfl) rfl dX4_rule_21 (fun H locs hW hS => ?_)
      obtain ⟨I7, eI7⟩ : ∃ z, z = k_up I 0 0 (upd (I 0 0) 6 v) := ⟨_, rfl⟩
      rw [← eI7] at hW
      refine lv_iload_n hx hb dX4_rule_24 rfl (lv_at hl 0 rfl) ?_
      exact w_iret X hr hlk hS (by first | rfl | (simp [cRule, c_1, c_5, eI7]; done) | (subst c_1; simp [cRule, c_5, eI7]; done) | (subst eI7; simp [cRule, c_1, c_5]; done) | (simp [cRule, c_1, c_5, eI7]; rfl)) (hW.to (by first | rfl | (subst eI7; simp [cRule, c_1, c_5]; done) | (subst eI7; rfl) | (subst eI7; simp [cRule, c_1, c_5]; done) | (subst eI7; simp [cRule, c_1, c_5]; rfl) | (simp [cRule, c_1, c_5, eI7]; done)) (by first | rfl | (subst eI7; simp [cRule, c_1, c_5]; done) | (subst eI7; rfl) | (subst eI7; simp [cRule, c_1, c_5]; done) | (subst eI7; simp [cRule, c_1, c_5]; rfl) | (simp [cRule, c_1, c_5, eI7]; done))) dX4_rule_25
set_option maxHeartbeats 4000000 in
set_option maxRecDepth 100000 in
theorem m_X4_bind (l : Launch) (G : k_G) (ad : Nat → Nat → Nat) (nA nK : Nat) (I : k_I) (J : k_J) (a : Int32) (t : Int32) (hs : k_S nA nK I) : k_Met l yX4_bind cX4_bind 5 (some FieldType.int) { frames := 5, cells := 0, slots := 0, locals := 112 } G [.ref (ad 0 0), .int a, .int t] (Wd G ad nA nK I J) (some (.int ((cBind nA nK a t (I, J)).1))) (Wd G ad nA nK ((cBind nA nK a t (I, J)).2.1) ((cBind nA nK a t (I, J)).2.2)) 0 0 := by
  refine k_body (by decide) (Nat.le_of_ble_eq_true rfl) ?_
  intro p e s m below meth c ls X hr hlk hnm hW hS hl
  have hx := X.1.1
  have hb := X.1.2.1
  have hG := X.1.2.2.2.2
  have hA24 := hs.2.2.1
  have hK30 := hs.2.2.2.1
  have hl : lv_has ls 5 [(0, .ref (ad 0 0)), (1, .int a), (2, .int t)] := hl
  refine lv_aload_n hx hb dX4_bind_0 rfl (lv_at hl 0 rfl) ?_
  refine lv_iload_n hx hb dX4_bind_1 rfl (lv_at hl 1 rfl) ?_
  refine w_cV1 X hS (m_X4_answerAt l G ad nA nK I J a hs) rfl rfl g99 g1 g96 g98 p1 hd_X4_answerAt ⟨Nat.le_of_ble_eq_true rfl, Nat.le_of_ble_eq_true rfl⟩ (k_rec X hW 0 0 Nat.zero_lt_one rfl rfl) hW hl.1 rfl (Nat.le_of_ble_eq_true rfl) dX4_bind_2 (Nat.zero_le _) (Nat.zero_le _) (fun H locs hW hS => ?_)
  rcases hq1 : kAns nA a with _ | i1
  · skip
    refine lv_astore_nN (lv' := [(3, .null), (0, .ref (ad 0 0)), (1, .int a), (2, .int t)]) hx hb dX4_bind_5 rfl hl (by decide) rfl (fun ls hl => ?_)
    refine lv_aload_nN hx hb dX4_bind_6 rfl (lv_at hl 0 rfl) ?_
    refine lv_ifnonnullN hx hb dX4_bind_7 ?_
    refine lv_sipush (v := (-1001)) hx hb dX4_bind_10 (by decide) ?_
    exact w_iret X hr hlk hS (by first | rfl | (simp [cBind, hq1]; done) | (simp [cBind, hq1]; rfl)) (hW.to (by first | rfl | (simp [cBind, hq1]; done)) (by first | rfl | (simp [cBind, hq1]; done))) dX4_bind_13
  · skip
    have hi1 := kAns_b hq1
    refine lv_astore_n (lv' := [(3, .ref (ad 8 i1)), (0, .ref (ad 0 0)), (1, .int a), (2, .int t)]) hx hb dX4_bind_5 rfl hl (by decide) rfl (fun ls hl => ?_)
    refine lv_aload_n hx hb dX4_bind_6 rfl (lv_at hl 0 rfl) ?_
    refine lv_ifnonnull (tgt := 14) hx hb dX4_bind_7 (by decide) ?_
    refine lv_iload_n hx hb dX4_bind_14 rfl (lv_at hl 3 rfl) ?_
    refine lv_iconst (v := 0) hx hb dX4_bind_15 (by decide) ?_
    refine lv_sipush (v := 1023) hx hb dX4_bind_16 (by decide) ?_
    refine w_cS1 X hS (m_X4_within l G (Wd G ad nA nK I J) t 0 1023 ) rfl rfl g83 g1 g81 g82 hd_X4_within ⟨Nat.le_of_ble_eq_true rfl, Nat.le_of_ble_eq_true rfl⟩ hW hl.1 rfl (Nat.le_of_ble_eq_true rfl) dX4_bind_19 (Nat.zero_le _) (Nat.zero_le _) (fun H locs hW hS => ?_)
    refine lb_if_ne (tgt := 29) hx hb dX4_bind_22 (by decide) (fun c_2 => ?_) (fun c_2 => ?_)
    · skip
      refine lv_aload_n hx hb dX4_bind_29 rfl (lv_at hl 0 rfl) ?_
      refine w_cV1 X hS (m_X0_kindNow l G ad nA nK I J i1 hi1) rfl rfl g270 g5 g267 g268 g269 hd_X0_kindNow ⟨Nat.le_of_ble_eq_true rfl, Nat.le_of_ble_eq_true rfl⟩ (k_rec X hW 8 i1 hi1 rfl rfl) hW hl.1 rfl (Nat.le_of_ble_eq_true rfl) dX4_bind_30 (Nat.zero_le _) (Nat.zero_le _) (fun H locs hW hS => ?_)
      refine lv_if_eq (tgt := 40) hx hb dX4_bind_33 (by decide) (fun c_3 => ?_) (fun c_3 => ?_)
      · skip
        refine lv_aload_n hx hb dX4_bind_40 rfl (lv_at hl 0 rfl) ?_
        refine w_get X hW 8 i1 hi1 rfl rfl inG0 6 (by decide) g197 rfl dX4_bind_41 ?_
        refine lv_istore (lv' := [(4, .int (I 8 i1 6)), (3, .ref (ad 8 i1)), (0, .ref (ad 0 0)), (1, .int a), (2, .int t)]) hx hb dX4_bind_44 hl (by decide) rfl (fun ls hl => ?_)
        refine lv_aload_n hx hb dX4_bind_46 rfl (lv_at hl 1 rfl) ?_
        refine lv_iload_n hx hb dX4_bind_47 rfl (lv_at hl 4 rfl) ?_
        refine w_puti X hW hS 8 i1 hi1 rfl rfl inG0 tyX0 tyX0_ok nmX0 6 (by decide) g197 rfl rfl rfl (Nat.le_of_ble_eq_true rfl) rfl dX4_bind_48 (fun H locs hW hS => ?_)
        obtain ⟨I4, eI4⟩ : ∃ z, z = k_up I 8 i1 (upd (I 8 i1) 6 t) := ⟨_, rfl⟩
        rw [← eI4] at hW
        have hs4 : k_S nA nK I4 := by rw [eI4]; exact hs.up 8 _ _ (by decide)
        refine lv_aload_n hx hb dX4_bind_51 rfl (lv_at hl 2 rfl) ?_
        refine w_cVv X hS (m_X4_settle l G ad nA nK I4 J  hs4) rfl rfl g95 g1 g92 g94 p0 hd_X4_settle ⟨Nat.le_of_ble_eq_true rfl, Nat.le_of_ble_eq_true rfl⟩ (k_rec X hW 0 0 Nat.zero_lt_one rfl rfl) hW hl.1 rfl (Nat.le_of_ble_eq_true rfl) dX4_bind_52 (Nat.zero_le _) (Nat.zero_le _) (fun H locs hW hS => ?_)
        obtain ⟨I5, eI5⟩ : ∃ z, z = (kSettle nA nK (I4, J)).1 := ⟨_, rfl⟩
        rw [← eI5] at hW
        have hs5 : k_S nA nK I5 := by rw [eI5]; exact (kSettle_S (s := (I4, J)) hs4)
        obtain ⟨J5, eJ5⟩ : ∃ z, z = (kSettle nA nK (I4, J)).2 := ⟨_, rfl⟩
        rw [← eJ5] at hW
        refine lv_iload hx hb dX4_bind_55 (lv_at hl 0 rfl) ?_
        exact w_iret X hr hlk hS (by first | rfl | (simp [cBind, hq1, c_2, c_3, eI4, eI5, eJ5]; done) | (subst eJ5 eI5 eI4; simp [cBind, hq1, c_2, c_3]; done) | (simp [cBind, hq1, c_2, c_3, eI4, eI5, eJ5]; rfl)) (hW.to (by first | rfl | (subst eJ5 eI5 eI4; simp [cBind, hq1, c_2, c_3]; done) | (subst eJ5 eI5 eI4; rfl) | (subst eJ5 eI5 eI4; simp [cBind, hq1, c_2, c_3]; done) | (subst eJ5 eI5 eI4; simp [cBind, hq1, c_2, c_3]; rfl) | (simp [cBind, hq1, c_2, c_3, eI4, eI5, eJ5]; done)) (by first | rfl | (subst eJ5 eI5 eI4; simp [cBind, hq1, c_2, c_3]; done) | (subst eJ5 eI5 eI4; rfl) | (subst eJ5 eI5 eI4; simp [cBind, hq1, c_2, c_3]; done) | (subst eJ5 eI5 eI4; simp [cBind, hq1, c_2, c_3]; rfl) | (simp [cBind, hq1, c_2, c_3, eI4, eI5, eJ5]; done))) dX4_bind_57
      · skip
        refine lv_sipush (v := (-1003)) hx hb dX4_bind_36 (by decide) ?_
        exact w_iret X hr hlk hS (by first | rfl | (simp [cBind, hq1, c_2, c_3]; done) | (simp [cBind, hq1, c_2, c_3]; rfl)) (hW.to (by first | rfl | (simp [cBind, hq1, c_2, c_3]; done)) (by first | rfl | (simp [cBind, hq1, c_2, c_3]; done))) dX4_bind_39
    · skip
      refine lv_sipush (v := (-1002)) hx hb dX4_bind_25 (by decide) ?_
      exact w_iret X hr hlk hS (by first | rfl | (simp [cBind, hq1, c_2]; done) | (simp [cBind, hq1, c_2]; rfl)) (hW.to (by first | rfl | (simp [cBind, hq1, c_2]; done)) (by first | rfl | (simp [cBind, hq1, c_2]; done))) dX4_bind_28
set_option maxHeartbeats 4000000 in
set_option maxRecDepth 100000 in
theorem m_X4_confirm (l : Launch) (G : k_G) (ad : Nat → Nat → Nat) (nA nK : Nat) (I : k_I) (J : k_J) (a : Int32) (hs : k_S nA nK I) : k_Met l yX4_confirm cX4_confirm 4 (some FieldType.int) { frames := 5, cells := 0, slots := 0, locals := 112 } G [.ref (ad 0 0), .int a] (Wd G ad nA nK I J) (some (.int ((cConfirm nA nK a (I, J)).1))) (Wd G ad nA nK ((cConfirm nA nK a (I, J)).2.1) ((cConfirm nA nK a (I, J)).2.2)) 0 0 := by
  refine k_body (by decide) (Nat.le_of_ble_eq_true rfl) ?_
  intro p e s m below meth c ls X hr hlk hnm hW hS hl
  have hx := X.1.1
  have hb := X.1.2.1
  have hG := X.1.2.2.2.2
  have hA24 := hs.2.2.1
  have hK30 := hs.2.2.2.1
  have hl : lv_has ls 4 [(0, .ref (ad 0 0)), (1, .int a)] := hl
  refine lv_aload_n hx hb dX4_confirm_0 rfl (lv_at hl 0 rfl) ?_
  refine lv_iload_n hx hb dX4_confirm_1 rfl (lv_at hl 1 rfl) ?_
  refine w_cV1 X hS (m_X4_answerAt l G ad nA nK I J a hs) rfl rfl g99 g1 g96 g98 p1 hd_X4_answerAt ⟨Nat.le_of_ble_eq_true rfl, Nat.le_of_ble_eq_true rfl⟩ (k_rec X hW 0 0 Nat.zero_lt_one rfl rfl) hW hl.1 rfl (Nat.le_of_ble_eq_true rfl) dX4_confirm_2 (Nat.zero_le _) (Nat.zero_le _) (fun H locs hW hS => ?_)
  rcases hq1 : kAns nA a with _ | i1
  · skip
    refine lv_astore_nN (lv' := [(2, .null), (0, .ref (ad 0 0)), (1, .int a)]) hx hb dX4_confirm_5 rfl hl (by decide) rfl (fun ls hl => ?_)
    refine lv_aload_nN hx hb dX4_confirm_6 rfl (lv_at hl 0 rfl) ?_
    refine lv_ifnonnullN hx hb dX4_confirm_7 ?_
    refine lv_sipush (v := (-1001)) hx hb dX4_confirm_10 (by decide) ?_
    exact w_iret X hr hlk hS (by first | rfl | (simp [cConfirm, k_b, hq1]; done) | (simp [cConfirm, k_b, hq1]; rfl)) (hW.to (by first | rfl | (simp [cConfirm, k_b, hq1]; done)) (by first | rfl | (simp [cConfirm, k_b, hq1]; done))) dX4_confirm_13
  · skip
    have hi1 := kAns_b hq1
    refine lv_astore_n (lv' := [(2, .ref (ad 8 i1)), (0, .ref (ad 0 0)), (1, .int a)]) hx hb dX4_confirm_5 rfl hl (by decide) rfl (fun ls hl => ?_)
    refine lv_aload_n hx hb dX4_confirm_6 rfl (lv_at hl 0 rfl) ?_
    refine lv_ifnonnull (tgt := 14) hx hb dX4_confirm_7 (by decide) ?_
    refine lv_aload_n hx hb dX4_confirm_14 rfl (lv_at hl 0 rfl) ?_
    refine w_cV1 X hS (m_X0_kindNow l G ad nA nK I J i1 hi1) rfl rfl g270 g5 g267 g268 g269 hd_X0_kindNow ⟨Nat.le_of_ble_eq_true rfl, Nat.le_of_ble_eq_true rfl⟩ (k_rec X hW 8 i1 hi1 rfl rfl) hW hl.1 rfl (Nat.le_of_ble_eq_true rfl) dX4_confirm_15 (Nat.zero_le _) (Nat.zero_le _) (fun H locs hW hS => ?_)
    refine lv_if_eq (tgt := 25) hx hb dX4_confirm_18 (by decide) (fun c_2 => ?_) (fun c_2 => ?_)
    · skip
      refine lv_aload_n hx hb dX4_confirm_25 rfl (lv_at hl 0 rfl) ?_
      refine w_cV1 X hS (m_X0_isDoubted l G ad nA nK I J i1 hi1) rfl rfl g290 g5 g287 g288 g289 hd_X0_isDoubted ⟨Nat.le_of_ble_eq_true rfl, Nat.le_of_ble_eq_true rfl⟩ (k_rec X hW 8 i1 hi1 rfl rfl) hW hl.1 rfl (Nat.le_of_ble_eq_true rfl) dX4_confirm_26 (Nat.zero_le _) (Nat.zero_le _) (fun H locs hW hS => ?_)
      refine lb_if_eq (tgt := 36) hx hb dX4_confirm_29 (by decide) (fun c_3 => ?_) (fun c_3 => ?_)
      · skip
        refine lv_iconst (v := 0) hx hb dX4_confirm_36 (by decide) ?_
        refine lv_istore_n (lv' := [(3, .int 0), (2, .ref (ad 8 i1)), (0, .ref (ad 0 0)), (1, .int a)]) hx hb dX4_confirm_37 rfl hl (by decide) rfl (fun ls hl => ?_)
        refine lv_aload_n hx hb dX4_confirm_38 rfl (lv_at hl 1 rfl) ?_
        refine lv_aload_n hx hb dX4_confirm_39 rfl (lv_at hl 2 rfl) ?_
        refine w_get X hW 0 0 Nat.zero_lt_one rfl rfl inG4 1 (by decide) g50 rfl dX4_confirm_40 ?_
        refine w_cV1 X hS (m_X3_now l G ad nA nK I J  ) rfl rfl g244 g3 g241 g242 g243 hd_X3_now ⟨Nat.le_of_ble_eq_true rfl, Nat.le_of_ble_eq_true rfl⟩ (k_rec X hW 3 0 Nat.zero_lt_one rfl rfl) hW hl.1 rfl (Nat.le_of_ble_eq_true rfl) dX4_confirm_43 (Nat.zero_le _) (Nat.zero_le _) (fun H locs hW hS => ?_)
        refine w_puti X hW hS 8 i1 hi1 rfl rfl inG0 tyX0 tyX0_ok nmX0 7 (by decide) g199 rfl rfl rfl (Nat.le_of_ble_eq_true rfl) rfl dX4_confirm_46 (fun H locs hW hS => ?_)
        obtain ⟨I4, eI4⟩ : ∃ z, z = k_up I 8 i1 (upd (I 8 i1) 7 (I 3 0 2)) := ⟨_, rfl⟩
        rw [← eI4] at hW
        have hs4 : k_S nA nK I4 := by rw [eI4]; exact hs.up 8 _ _ (by decide)
        refine lv_aload_n hx hb dX4_confirm_49 rfl (lv_at hl 2 rfl) ?_
        refine w_cVv X hS (m_X4_settle l G ad nA nK I4 J  hs4) rfl rfl g95 g1 g92 g94 p0 hd_X4_settle ⟨Nat.le_of_ble_eq_true rfl, Nat.le_of_ble_eq_true rfl⟩ (k_rec X hW 0 0 Nat.zero_lt_one rfl rfl) hW hl.1 rfl (Nat.le_of_ble_eq_true rfl) dX4_confirm_50 (Nat.zero_le _) (Nat.zero_le _) (fun H locs hW hS => ?_)
        obtain ⟨I5, eI5⟩ : ∃ z, z = (kSettle nA nK (I4, J)).1 := ⟨_, rfl⟩
        rw [← eI5] at hW
        have hs5 : k_S nA nK I5 := by rw [eI5]; exact (kSettle_S (s := (I4, J)) hs4)
        obtain ⟨J5, eJ5⟩ : ∃ z, z = (kSettle nA nK (I4, J)).2 := ⟨_, rfl⟩
        rw [← eJ5] at hW
        refine lv_iload_n hx hb dX4_confirm_53 rfl (lv_at hl 0 rfl) ?_
        exact w_iret X hr hlk hS (by first | rfl | (simp [cConfirm, k_b, hq1, c_2, c_3, eI4, eI5, eJ5]; done) | (subst eJ5 eI5 eI4; simp [cConfirm, k_b, hq1, c_2, c_3]; done) | (simp [cConfirm, k_b, hq1, c_2, c_3, eI4, eI5, eJ5]; rfl)) (hW.to (by first | rfl | (subst eJ5 eI5 eI4; simp [cConfirm, k_b, hq1, c_2, c_3]; done) | (subst eJ5 eI5 eI4; rfl) | (subst eJ5 eI5 eI4; simp [cConfirm, k_b, hq1, c_2, c_3]; done) | (subst eJ5 eI5 eI4; simp [cConfirm, k_b, hq1, c_2, c_3]; rfl) | (simp [cConfirm, k_b, hq1, c_2, c_3, eI4, eI5, eJ5]; done)) (by first | rfl | (subst eJ5 eI5 eI4; simp [cConfirm, k_b, hq1, c_2, c_3]; done) | (subst eJ5 eI5 eI4; rfl) | (subst eJ5 eI5 eI4; simp [cConfirm, k_b, hq1, c_2, c_3]; done) | (subst eJ5 eI5 eI4; simp [cConfirm, k_b, hq1, c_2, c_3]; rfl) | (simp [cConfirm, k_b, hq1, c_2, c_3, eI4, eI5, eJ5]; done))) dX4_confirm_54
      · skip
        refine lv_iconst (v := 1) hx hb dX4_confirm_32 (by decide) ?_
        refine lv_goto (tgt := 37) hx hb dX4_confirm_33 (by decide) ?_
        refine lv_istore_n (lv' := [(3, .int 1), (2, .ref (ad 8 i1)), (0, .ref (ad 0 0)), (1, .int a)]) hx hb dX4_confirm_37 rfl hl (by decide) rfl (fun ls hl => ?_)
        refine lv_aload_n hx hb dX4_confirm_38 rfl (lv_at hl 1 rfl) ?_
        refine lv_aload_n hx hb dX4_confirm_39 rfl (lv_at hl 2 rfl) ?_
        refine w_get X hW 0 0 Nat.zero_lt_one rfl rfl inG4 1 (by decide) g50 rfl dX4_confirm_40 ?_
        refine w_cV1 X hS (m_X3_now l G ad nA nK I J  ) rfl rfl g244 g3 g241 g242 g243 hd_X3_now ⟨Nat.le_of_ble_eq_true rfl, Nat.le_of_ble_eq_true rfl⟩ (k_rec X hW 3 0 Nat.zero_lt_one rfl rfl) hW hl.1 rfl (Nat.le_of_ble_eq_true rfl) dX4_confirm_43 (Nat.zero_le _) (Nat.zero_le _) (fun H locs hW hS => ?_)
        refine w_puti X hW hS 8 i1 hi1 rfl rfl inG0 tyX0 tyX0_ok nmX0 7 (by decide) g199 rfl rfl rfl (Nat.le_of_ble_eq_true rfl) rfl dX4_confirm_46 (fun H locs hW hS => ?_)
        obtain ⟨I6, eI6⟩ : ∃ z, z = k_up I 8 i1 (upd (I 8 i1) 7 (I 3 0 2)) := ⟨_, rfl⟩
        rw [← eI6] at hW
        have hs6 : k_S nA nK I6 := by rw [eI6]; exact hs.up 8 _ _ (by decide)
        refine lv_aload_n hx hb dX4_confirm_49 rfl (lv_at hl 2 rfl) ?_
        refine w_cVv X hS (m_X4_settle l G ad nA nK I6 J  hs6) rfl rfl g95 g1 g92 g94 p0 hd_X4_settle ⟨Nat.le_of_ble_eq_true rfl, Nat.le_of_ble_eq_true rfl⟩ (k_rec X hW 0 0 Nat.zero_lt_one rfl rfl) hW hl.1 rfl (Nat.le_of_ble_eq_true rfl) dX4_confirm_50 (Nat.zero_le _) (Nat.zero_le _) (fun H locs hW hS => ?_)
        obtain ⟨I7, eI7⟩ : ∃ z, z = (kSettle nA nK (I6, J)).1 := ⟨_, rfl⟩
        rw [← eI7] at hW
        have hs7 : k_S nA nK I7 := by rw [eI7]; exact (kSettle_S (s := (I6, J)) hs6)
        obtain ⟨J7, eJ7⟩ : ∃ z, z = (kSettle nA nK (I6, J)).2 := ⟨_, rfl⟩
        rw [← eJ7] at hW
        refine lv_iload_n hx hb dX4_confirm_53 rfl (lv_at hl 0 rfl) ?_
        exact w_iret X hr hlk hS (by first | rfl | (simp [cConfirm, k_b, hq1, c_2, c_3, eI6, eI7, eJ7]; done) | (subst eJ7 eI7 eI6; simp [cConfirm, k_b, hq1, c_2, c_3]; done) | (simp [cConfirm, k_b, hq1, c_2, c_3, eI6, eI7, eJ7]; rfl)) (hW.to (by first | rfl | (subst eJ7 eI7 eI6; simp [cConfirm, k_b, hq1, c_2, c_3]; done) | (subst eJ7 eI7 eI6; rfl) | (subst eJ7 eI7 eI6; simp [cConfirm, k_b, hq1, c_2, c_3]; done) | (subst eJ7 eI7 eI6; simp [cConfirm, k_b, hq1, c_2, c_3]; rfl) | (simp [cConfirm, k_b, hq1, c_2, c_3, eI6, eI7, eJ7]; done)) (by first | rfl | (subst eJ7 eI7 eI6; simp [cConfirm, k_b, hq1, c_2, c_3]; done) | (subst eJ7 eI7 eI6; rfl) | (subst eJ7 eI7 eI6; simp [cConfirm, k_b, hq1, c_2, c_3]; done) | (subst eJ7 eI7 eI6; simp [cConfirm, k_b, hq1, c_2, c_3]; rfl) | (simp [cConfirm, k_b, hq1, c_2, c_3, eI6, eI7, eJ7]; done))) dX4_confirm_54
    · skip
      refine lv_sipush (v := (-1003)) hx hb dX4_confirm_21 (by decide) ?_
      exact w_iret X hr hlk hS (by first | rfl | (simp [cConfirm, k_b, hq1, c_2]; done) | (simp [cConfirm, k_b, hq1, c_2]; rfl)) (hW.to (by first | rfl | (simp [cConfirm, k_b, hq1, c_2]; done)) (by first | rfl | (simp [cConfirm, k_b, hq1, c_2]; done))) dX4_confirm_24
set_option maxHeartbeats 4000000 in
set_option maxRecDepth 100000 in
theorem m_X4_move (l : Launch) (G : k_G) (ad : Nat → Nat → Nat) (nA nK : Nat) (I : k_I) (J : k_J) (a : Int32) (b : Int32) (hs : k_S nA nK I) : k_Met l yX4_move cX4_move 5 (some FieldType.int) { frames := 5, cells := 0, slots := 0, locals := 112 } G [.ref (ad 0 0), .int a, .int b] (Wd G ad nA nK I J) (some (.int ((cMove nA nK a b (I, J)).1))) (Wd G ad nA nK ((cMove nA nK a b (I, J)).2.1) ((cMove nA nK a b (I, J)).2.2)) 0 0 := by
  refine k_body (by decide) (Nat.le_of_ble_eq_true rfl) ?_
  intro p e s m below meth c ls X hr hlk hnm hW hS hl
  have hx := X.1.1
  have hb := X.1.2.1
  have hG := X.1.2.2.2.2
  have hA24 := hs.2.2.1
  have hK30 := hs.2.2.2.1
  have hl : lv_has ls 5 [(0, .ref (ad 0 0)), (1, .int a), (2, .int b)] := hl
  refine lv_aload_n hx hb dX4_move_0 rfl (lv_at hl 0 rfl) ?_
  refine lv_iload_n hx hb dX4_move_1 rfl (lv_at hl 1 rfl) ?_
  refine w_cV1 X hS (m_X4_answerAt l G ad nA nK I J a hs) rfl rfl g99 g1 g96 g98 p1 hd_X4_answerAt ⟨Nat.le_of_ble_eq_true rfl, Nat.le_of_ble_eq_true rfl⟩ (k_rec X hW 0 0 Nat.zero_lt_one rfl rfl) hW hl.1 rfl (Nat.le_of_ble_eq_true rfl) dX4_move_2 (Nat.zero_le _) (Nat.zero_le _) (fun H locs hW hS => ?_)
  rcases hq1 : kAns nA a with _ | i1
  · skip
    refine lv_astore_nN (lv' := [(3, .null), (0, .ref (ad 0 0)), (1, .int a), (2, .int b)]) hx hb dX4_move_5 rfl hl (by decide) rfl (fun ls hl => ?_)
    refine lv_aload_n hx hb dX4_move_6 rfl (lv_at hl 1 rfl) ?_
    refine lv_iload_n hx hb dX4_move_7 rfl (lv_at hl 3 rfl) ?_
    refine w_cV1 X hS (m_X4_endOf l G ad nA nK I J b hs) rfl rfl g130 g1 g127 g129 p5 hd_X4_endOf ⟨Nat.le_of_ble_eq_true rfl, Nat.le_of_ble_eq_true rfl⟩ (k_rec X hW 0 0 Nat.zero_lt_one rfl rfl) hW hl.1 rfl (Nat.le_of_ble_eq_true rfl) dX4_move_8 (Nat.zero_le _) (Nat.zero_le _) (fun H locs hW hS => ?_)
    rcases hq2 : kEnd nA I b with _ | i2
    · skip
      refine lv_astoreN (lv' := [(4, .null), (3, .null), (0, .ref (ad 0 0)), (1, .int a), (2, .int b)]) hx hb dX4_move_11 hl (by decide) rfl (fun ls hl => ?_)
      refine lv_aload_nN hx hb dX4_move_13 rfl (lv_at hl 1 rfl) ?_
      refine lv_ifnullN (tgt := 22) hx hb dX4_move_14 (by decide) ?_
      refine lv_sipush (v := (-1001)) hx hb dX4_move_22 (by decide) ?_
      exact w_iret X hr hlk hS (by first | rfl | (simp [cMove, cMove2, hq1, hq2]; done) | (simp [cMove, cMove2, hq1, hq2]; rfl)) (hW.to (by first | rfl | (simp [cMove, cMove2, hq1, hq2]; done)) (by first | rfl | (simp [cMove, cMove2, hq1, hq2]; done))) dX4_move_25
    · skip
      have hi2 := kEnd_b hq2
      refine lv_astore (lv' := [(4, .ref (ad 8 i2)), (3, .null), (0, .ref (ad 0 0)), (1, .int a), (2, .int b)]) hx hb dX4_move_11 hl (by decide) rfl (fun ls hl => ?_)
      refine lv_aload_nN hx hb dX4_move_13 rfl (lv_at hl 1 rfl) ?_
      refine lv_ifnullN (tgt := 22) hx hb dX4_move_14 (by decide) ?_
      refine lv_sipush (v := (-1001)) hx hb dX4_move_22 (by decide) ?_
      exact w_iret X hr hlk hS (by first | rfl | (simp [cMove, cMove2, hq1, hq2]; done) | (simp [cMove, cMove2, hq1, hq2]; rfl)) (hW.to (by first | rfl | (simp [cMove, cMove2, hq1, hq2]; done)) (by first | rfl | (simp [cMove, cMove2, hq1, hq2]; done))) dX4_move_25
  · skip
    have hi1 := kAns_b hq1
    refine lv_astore_n (lv' := [(3, .ref (ad 8 i1)), (0, .ref (ad 0 0)), (1, .int a), (2, .int b)]) hx hb dX4_move_5 rfl hl (by decide) rfl (fun ls hl => ?_)
    refine lv_aload_n hx hb dX4_move_6 rfl (lv_at hl 1 rfl) ?_
    refine lv_iload_n hx hb dX4_move_7 rfl (lv_at hl 3 rfl) ?_
    refine w_cV1 X hS (m_X4_endOf l G ad nA nK I J b hs) rfl rfl g130 g1 g127 g129 p5 hd_X4_endOf ⟨Nat.le_of_ble_eq_true rfl, Nat.le_of_ble_eq_true rfl⟩ (k_rec X hW 0 0 Nat.zero_lt_one rfl rfl) hW hl.1 rfl (Nat.le_of_ble_eq_true rfl) dX4_move_8 (Nat.zero_le _) (Nat.zero_le _) (fun H locs hW hS => ?_)
    rcases hq3 : kEnd nA I b with _ | i3
    · skip
      refine lv_astoreN (lv' := [(4, .null), (3, .ref (ad 8 i1)), (0, .ref (ad 0 0)), (1, .int a), (2, .int b)]) hx hb dX4_move_11 hl (by decide) rfl (fun ls hl => ?_)
      refine lv_aload_n hx hb dX4_move_13 rfl (lv_at hl 1 rfl) ?_
      refine lv_ifnull hx hb dX4_move_14 ?_
      refine lv_aloadN hx hb dX4_move_17 (lv_at hl 0 rfl) ?_
      refine lv_ifnonnullN hx hb dX4_move_19 ?_
      refine lv_sipush (v := (-1001)) hx hb dX4_move_22 (by decide) ?_
      exact w_iret X hr hlk hS (by first | rfl | (simp [cMove, cMove2, hq1, hq3]; done) | (simp [cMove, cMove2, hq1, hq3]; rfl)) (hW.to (by first | rfl | (simp [cMove, cMove2, hq1, hq3]; done)) (by first | rfl | (simp [cMove, cMove2, hq1, hq3]; done))) dX4_move_25
    · skip
      have hi3 := kEnd_b hq3
      refine lv_astore (lv' := [(4, .ref (ad 8 i3)), (3, .ref (ad 8 i1)), (0, .ref (ad 0 0)), (1, .int a), (2, .int b)]) hx hb dX4_move_11 hl (by decide) rfl (fun ls hl => ?_)
      refine lv_aload_n hx hb dX4_move_13 rfl (lv_at hl 1 rfl) ?_
      refine lv_ifnull hx hb dX4_move_14 ?_
      refine lv_aload hx hb dX4_move_17 (lv_at hl 0 rfl) ?_
      refine lv_ifnonnull (tgt := 26) hx hb dX4_move_19 (by decide) ?_
      refine lv_aload_n hx hb dX4_move_26 rfl (lv_at hl 1 rfl) ?_
      refine w_cV1 X hS (m_X0_isMoved l G ad nA nK I J i1 hi1) rfl rfl g274 g5 g295 g272 g273 hd_X0_isMoved ⟨Nat.le_of_ble_eq_true rfl, Nat.le_of_ble_eq_true rfl⟩ (k_rec X hW 8 i1 hi1 rfl rfl) hW hl.1 rfl (Nat.le_of_ble_eq_true rfl) dX4_move_27 (Nat.zero_le _) (Nat.zero_le _) (fun H locs hW hS => ?_)
      refine lb_if_ne (tgt := 61) hx hb dX4_move_30 (by decide) (fun c_4 => ?_) (fun c_4 => ?_)
      · skip
        refine lv_sipush (v := (-1003)) hx hb dX4_move_61 (by decide) ?_
        exact w_iret X hr hlk hS (by first | rfl | (simp [cMove, cMove2, hq1, hq3, c_4]; done) | (simp [cMove, cMove2, hq1, hq3, c_4]; rfl)) (hW.to (by first | rfl | (simp [cMove, cMove2, hq1, hq3, c_4]; done)) (by first | rfl | (simp [cMove, cMove2, hq1, hq3, c_4]; done))) dX4_move_64
      · skip
        refine lv_aload hx hb dX4_move_33 (lv_at hl 0 rfl) ?_
        refine w_get X hW 8 i3 hi3 rfl rfl inG0 0 (by decide) g187 rfl dX4_move_35 ?_
        refine lv_aload_n hx hb dX4_move_38 rfl (lv_at hl 1 rfl) ?_
        refine w_get X hW 8 i1 hi1 rfl rfl inG0 0 (by decide) g187 rfl dX4_move_39 ?_
        refine lv_icmp_eq (tgt := 61) hx hb dX4_move_42 (by decide) (fun c_5 => ?_) (fun c_5 => ?_)
        · skip
          refine lv_sipush (v := (-1003)) hx hb dX4_move_61 (by decide) ?_
          exact w_iret X hr hlk hS (by first | rfl | (simp [cMove, cMove2, hq1, hq3, c_4, c_5]; done) | (simp [cMove, cMove2, hq1, hq3, c_4, c_5]; rfl)) (hW.to (by first | rfl | (simp [cMove, cMove2, hq1, hq3, c_4, c_5]; done)) (by first | rfl | (simp [cMove, cMove2, hq1, hq3, c_4, c_5]; done))) dX4_move_64
        · skip
          refine lv_aload hx hb dX4_move_45 (lv_at hl 0 rfl) ?_
          refine w_get X hW 8 i3 hi3 rfl rfl inG0 12 (by decide) g209 rfl dX4_move_47 ?_
          refine lv_aload_n hx hb dX4_move_50 rfl (lv_at hl 1 rfl) ?_
          refine w_get X hW 8 i1 hi1 rfl rfl inG0 0 (by decide) g187 rfl dX4_move_51 ?_
          refine w_cS1 X hS (m_X4_bit l G (Wd G ad nA nK I J) (I 8 i1 0) ) rfl rfl g110 g1 g131 g109 hd_X4_bit ⟨Nat.le_of_ble_eq_true rfl, Nat.le_of_ble_eq_true rfl⟩ hW hl.1 rfl (Nat.le_of_ble_eq_true rfl) dX4_move_54 (Nat.zero_le _) (Nat.zero_le _) (fun H locs hW hS => ?_)
          refine lv_iand hx hb dX4_move_57 ?_
          refine lv_if_eq (tgt := 65) hx hb dX4_move_58 (by decide) (fun c_6 => ?_) (fun c_6 => ?_)
          · skip
            refine lv_aload_n hx hb dX4_move_65 rfl (lv_at hl 2 rfl) ?_
            refine lv_aload_n hx hb dX4_move_66 rfl (lv_at hl 1 rfl) ?_
            refine w_get X hW 8 i1 hi1 rfl rfl inG0 0 (by decide) g187 rfl dX4_move_67 ?_
            refine lv_aload hx hb dX4_move_70 (lv_at hl 0 rfl) ?_
            refine w_get X hW 8 i3 hi3 rfl rfl inG0 0 (by decide) g187 rfl dX4_move_72 ?_
            refine w_cVv X hS (m_X4_leadOn l G ad nA nK I J (I 8 i1 0) (I 8 i3 0) hs) rfl rfl g299 g1 g296 g298 p11 hd_X4_leadOn ⟨Nat.le_of_ble_eq_true rfl, Nat.le_of_ble_eq_true rfl⟩ (k_rec X hW 0 0 Nat.zero_lt_one rfl rfl) hW hl.1 rfl (Nat.le_of_ble_eq_true rfl) dX4_move_75 (Nat.zero_le _) (Nat.zero_le _) (fun H locs hW hS => ?_)
            obtain ⟨I7, eI7⟩ : ∃ z, z = kLead nA (I 8 i1 0) (I 8 i3 0) I := ⟨_, rfl⟩
            rw [← eI7] at hW
            have hs7 : k_S nA nK I7 := by rw [eI7]; exact (kLead_S hs)
            refine lv_aload_n hx hb dX4_move_78 rfl (lv_at hl 2 rfl) ?_
            refine w_cVv X hS (m_X4_settle l G ad nA nK I7 J  hs7) rfl rfl g95 g1 g92 g94 p0 hd_X4_settle ⟨Nat.le_of_ble_eq_true rfl, Nat.le_of_ble_eq_true rfl⟩ (k_rec X hW 0 0 Nat.zero_lt_one rfl rfl) hW hl.1 rfl (Nat.le_of_ble_eq_true rfl) dX4_move_79 (Nat.zero_le _) (Nat.zero_le _) (fun H locs hW hS => ?_)
            obtain ⟨I8, eI8⟩ : ∃ z, z = (kSettle nA nK (I7, J)).1 := ⟨_, rfl⟩
            rw [← eI8] at hW
            have hs8 : k_S nA nK I8 := by rw [eI8]; exact (kSettle_S (s := (I7, J)) hs7)
            obtain ⟨J8, eJ8⟩ : ∃ z, z = (kSettle nA nK (I7, J)).2 := ⟨_, rfl⟩
            rw [← eJ8] at hW
            refine lv_aload hx hb dX4_move_82 (lv_at hl 0 rfl) ?_
            refine w_get X hW 8 i3 hi3 rfl rfl inG0 0 (by decide) g187 rfl dX4_move_84 ?_
            exact w_iret X hr hlk hS (by first | rfl | (simp [cMove, cMove2, hq1, hq3, c_4, c_5, c_6, eI7, eI8, eJ8]; done) | (subst eJ8 eI8 eI7; simp [cMove, cMove2, hq1, hq3, c_4, c_5, c_6]; done) | (simp [cMove, cMove2, hq1, hq3, c_4, c_5, c_6, eI7, eI8, eJ8]; rfl)) (hW.to (by first | rfl | (subst eJ8 eI8 eI7; simp [cMove, cMove2, hq1, hq3, c_4, c_5, c_6]; done) | (subst eJ8 eI8 eI7; rfl) | (subst eJ8 eI8 eI7; simp [cMove, cMove2, hq1, hq3, c_4, c_5, c_6]; done) | (subst eJ8 eI8 eI7; simp [cMove, cMove2, hq1, hq3, c_4, c_5, c_6]; rfl) | (simp [cMove, cMove2, hq1, hq3, c_4, c_5, c_6, eI7, eI8, eJ8]; done)) (by first | rfl | (subst eJ8 eI8 eI7; simp [cMove, cMove2, hq1, hq3, c_4, c_5, c_6]; done) | (subst eJ8 eI8 eI7; rfl) | (subst eJ8 eI8 eI7; simp [cMove, cMove2, hq1, hq3, c_4, c_5, c_6]; done) | (subst eJ8 eI8 eI7; simp [cMove, cMove2, hq1, hq3, c_4, c_5, c_6]; rfl) | (simp [cMove, cMove2, hq1, hq3, c_4, c_5, c_6, eI7, eI8, eJ8]; done))) dX4_move_87
          · skip
            refine lv_sipush (v := (-1003)) hx hb dX4_move_61 (by decide) ?_
            exact w_iret X hr hlk hS (by first | rfl | (simp [cMove, cMove2, hq1, hq3, c_4, c_5, c_6]; done) | (simp [cMove, cMove2, hq1, hq3, c_4, c_5, c_6]; rfl)) (hW.to (by first | rfl | (simp [cMove, cMove2, hq1, hq3, c_4, c_5, c_6]; done)) (by first | rfl | (simp [cMove, cMove2, hq1, hq3, c_4, c_5, c_6]; done))) dX4_move_64
set_option maxHeartbeats 4000000 in
set_option maxRecDepth 100000 in
theorem m_X4_melt (l : Launch) (G : k_G) (ad : Nat → Nat → Nat) (nA nK : Nat) (I : k_I) (J : k_J) (a : Int32) (b : Int32) (hs : k_S nA nK I) : k_Met l yX4_melt cX4_melt 5 (some FieldType.int) { frames := 5, cells := 0, slots := 0, locals := 112 } G [.ref (ad 0 0), .int a, .int b] (Wd G ad nA nK I J) (some (.int ((cMelt nA nK a b (I, J)).1))) (Wd G ad nA nK ((cMelt nA nK a b (I, J)).2.1) ((cMelt nA nK a b (I, J)).2.2)) 0 0 := by
  refine k_body (by decide) (Nat.le_of_ble_eq_true rfl) ?_
  intro p e s m below meth c ls X hr hlk hnm hW hS hl
  have hx := X.1.1
  have hb := X.1.2.1
  have hG := X.1.2.2.2.2
  have hA24 := hs.2.2.1
  have hK30 := hs.2.2.2.1
  have hl : lv_has ls 5 [(0, .ref (ad 0 0)), (1, .int a), (2, .int b)] := hl
  refine lv_aload_n hx hb dX4_melt_0 rfl (lv_at hl 0 rfl) ?_
  refine lv_iload_n hx hb dX4_melt_1 rfl (lv_at hl 1 rfl) ?_
  refine w_cV1 X hS (m_X4_answerAt l G ad nA nK I J a hs) rfl rfl g99 g1 g96 g98 p1 hd_X4_answerAt ⟨Nat.le_of_ble_eq_true rfl, Nat.le_of_ble_eq_true rfl⟩ (k_rec X hW 0 0 Nat.zero_lt_one rfl rfl) hW hl.1 rfl (Nat.le_of_ble_eq_true rfl) dX4_melt_2 (Nat.zero_le _) (Nat.zero_le _) (fun H locs hW hS => ?_)
  rcases hq1 : kAns nA a with _ | i1
  · skip
    refine lv_astore_nN (lv' := [(3, .null), (0, .ref (ad 0 0)), (1, .int a), (2, .int b)]) hx hb dX4_melt_5 rfl hl (by decide) rfl (fun ls hl => ?_)
    refine lv_aload_n hx hb dX4_melt_6 rfl (lv_at hl 1 rfl) ?_
    refine lv_iload_n hx hb dX4_melt_7 rfl (lv_at hl 3 rfl) ?_
    refine w_cV1 X hS (m_X4_answerAt l G ad nA nK I J b hs) rfl rfl g99 g1 g96 g98 p1 hd_X4_answerAt ⟨Nat.le_of_ble_eq_true rfl, Nat.le_of_ble_eq_true rfl⟩ (k_rec X hW 0 0 Nat.zero_lt_one rfl rfl) hW hl.1 rfl (Nat.le_of_ble_eq_true rfl) dX4_melt_8 (Nat.zero_le _) (Nat.zero_le _) (fun H locs hW hS => ?_)
    rcases hq2 : kAns nA b with _ | i2
    · skip
      refine lv_astoreN (lv' := [(4, .null), (3, .null), (0, .ref (ad 0 0)), (1, .int a), (2, .int b)]) hx hb dX4_melt_11 hl (by decide) rfl (fun ls hl => ?_)
      refine lv_aload_nN hx hb dX4_melt_13 rfl (lv_at hl 1 rfl) ?_
      refine lv_ifnullN (tgt := 22) hx hb dX4_melt_14 (by decide) ?_
      refine lv_sipush (v := (-1001)) hx hb dX4_melt_22 (by decide) ?_
      exact w_iret X hr hlk hS (by first | rfl | (simp [cMelt, cMelt2, hq1, hq2]; done) | (simp [cMelt, cMelt2, hq1, hq2]; rfl)) (hW.to (by first | rfl | (simp [cMelt, cMelt2, hq1, hq2]; done)) (by first | rfl | (simp [cMelt, cMelt2, hq1, hq2]; done))) dX4_melt_25
    · skip
      have hi2 := kAns_b hq2
      refine lv_astore (lv' := [(4, .ref (ad 8 i2)), (3, .null), (0, .ref (ad 0 0)), (1, .int a), (2, .int b)]) hx hb dX4_melt_11 hl (by decide) rfl (fun ls hl => ?_)
      refine lv_aload_nN hx hb dX4_melt_13 rfl (lv_at hl 1 rfl) ?_
      refine lv_ifnullN (tgt := 22) hx hb dX4_melt_14 (by decide) ?_
      refine lv_sipush (v := (-1001)) hx hb dX4_melt_22 (by decide) ?_
      exact w_iret X hr hlk hS (by first | rfl | (simp [cMelt, cMelt2, hq1, hq2]; done) | (simp [cMelt, cMelt2, hq1, hq2]; rfl)) (hW.to (by first | rfl | (simp [cMelt, cMelt2, hq1, hq2]; done)) (by first | rfl | (simp [cMelt, cMelt2, hq1, hq2]; done))) dX4_melt_25
  · skip
    have hi1 := kAns_b hq1
    refine lv_astore_n (lv' := [(3, .ref (ad 8 i1)), (0, .ref (ad 0 0)), (1, .int a), (2, .int b)]) hx hb dX4_melt_5 rfl hl (by decide) rfl (fun ls hl => ?_)
    refine lv_aload_n hx hb dX4_melt_6 rfl (lv_at hl 1 rfl) ?_
    refine lv_iload_n hx hb dX4_melt_7 rfl (lv_at hl 3 rfl) ?_
    refine w_cV1 X hS (m_X4_answerAt l G ad nA nK I J b hs) rfl rfl g99 g1 g96 g98 p1 hd_X4_answerAt ⟨Nat.le_of_ble_eq_true rfl, Nat.le_of_ble_eq_true rfl⟩ (k_rec X hW 0 0 Nat.zero_lt_one rfl rfl) hW hl.1 rfl (Nat.le_of_ble_eq_true rfl) dX4_melt_8 (Nat.zero_le _) (Nat.zero_le _) (fun H locs hW hS => ?_)
    rcases hq3 : kAns nA b with _ | i3
    · skip
      refine lv_astoreN (lv' := [(4, .null), (3, .ref (ad 8 i1)), (0, .ref (ad 0 0)), (1, .int a), (2, .int b)]) hx hb dX4_melt_11 hl (by decide) rfl (fun ls hl => ?_)
      refine lv_aload_n hx hb dX4_melt_13 rfl (lv_at hl 1 rfl) ?_
      refine lv_ifnull hx hb dX4_melt_14 ?_
      refine lv_aloadN hx hb dX4_melt_17 (lv_at hl 0 rfl) ?_
      refine lv_ifnonnullN hx hb dX4_melt_19 ?_
      refine lv_sipush (v := (-1001)) hx hb dX4_melt_22 (by decide) ?_
      exact w_iret X hr hlk hS (by first | rfl | (simp [cMelt, cMelt2, hq1, hq3]; done) | (simp [cMelt, cMelt2, hq1, hq3]; rfl)) (hW.to (by first | rfl | (simp [cMelt, cMelt2, hq1, hq3]; done)) (by first | rfl | (simp [cMelt, cMelt2, hq1, hq3]; done))) dX4_melt_25
    · skip
      have hi3 := kAns_b hq3
      refine lv_astore (lv' := [(4, .ref (ad 8 i3)), (3, .ref (ad 8 i1)), (0, .ref (ad 0 0)), (1, .int a), (2, .int b)]) hx hb dX4_melt_11 hl (by decide) rfl (fun ls hl => ?_)
      refine lv_aload_n hx hb dX4_melt_13 rfl (lv_at hl 1 rfl) ?_
      refine lv_ifnull hx hb dX4_melt_14 ?_
      refine lv_aload hx hb dX4_melt_17 (lv_at hl 0 rfl) ?_
      refine lv_ifnonnull (tgt := 26) hx hb dX4_melt_19 (by decide) ?_
      refine lv_iload_n hx hb dX4_melt_26 rfl (lv_at hl 3 rfl) ?_
      refine lv_iload_n hx hb dX4_melt_27 rfl (lv_at hl 4 rfl) ?_
      refine lv_icmp_eq (tgt := 40) hx hb dX4_melt_28 (by decide) (fun c_4 => ?_) (fun c_4 => ?_)
      · skip
        refine lv_sipush (v := (-1003)) hx hb dX4_melt_40 (by decide) ?_
        exact w_iret X hr hlk hS (by first | rfl | (simp [cMelt, cMelt2, hq1, hq3, c_4]; done) | (simp [cMelt, cMelt2, hq1, hq3, c_4]; rfl)) (hW.to (by first | rfl | (simp [cMelt, cMelt2, hq1, hq3, c_4]; done)) (by first | rfl | (simp [cMelt, cMelt2, hq1, hq3, c_4]; done))) dX4_melt_43
      · skip
        refine lv_aload_n hx hb dX4_melt_31 rfl (lv_at hl 1 rfl) ?_
        refine lv_aload hx hb dX4_melt_32 (lv_at hl 0 rfl) ?_
        refine w_cS1 X hS (m_X4_mayMelt l G ad nA nK I J i1 i3 hi1 hi3) rfl rfl g306 g1 g304 g305 hd_X4_mayMelt ⟨Nat.le_of_ble_eq_true rfl, Nat.le_of_ble_eq_true rfl⟩ hW hl.1 rfl (Nat.le_of_ble_eq_true rfl) dX4_melt_34 (Nat.zero_le _) (Nat.zero_le _) (fun H locs hW hS => ?_)
        refine lb_if_ne (tgt := 44) hx hb dX4_melt_37 (by decide) (fun c_5 => ?_) (fun c_5 => ?_)
        · skip
          refine lv_aload_n hx hb dX4_melt_44 rfl (lv_at hl 1 rfl) ?_
          refine lv_aload hx hb dX4_melt_45 (lv_at hl 0 rfl) ?_
          refine w_cVv X hS (m_X0_takeAllOf l G ad nA nK I J i1 i3 hi1 hi3) rfl rfl g317 g5 g314 g315 g316 hd_X0_takeAllOf ⟨Nat.le_of_ble_eq_true rfl, Nat.le_of_ble_eq_true rfl⟩ (k_rec X hW 8 i1 hi1 rfl rfl) hW hl.1 rfl (Nat.le_of_ble_eq_true rfl) dX4_melt_47 (Nat.zero_le _) (Nat.zero_le _) (fun H locs hW hS => ?_)
          obtain ⟨I6, eI6⟩ : ∃ z, z = kTak i1 i3 I := ⟨_, rfl⟩
          rw [← eI6] at hW
          have hs6 : k_S nA nK I6 := by rw [eI6]; exact (kTak_S hs)
          obtain ⟨J6, eJ6⟩ : ∃ z, z = kGatJ i1 i3 J := ⟨_, rfl⟩
          rw [← eJ6] at hW
          refine lv_aload_n hx hb dX4_melt_50 rfl (lv_at hl 2 rfl) ?_
          refine lv_aload hx hb dX4_melt_51 (lv_at hl 0 rfl) ?_
          refine w_get X hW 8 i3 hi3 rfl rfl inG0 0 (by decide) g187 rfl dX4_melt_53 ?_
          refine lv_aload_n hx hb dX4_melt_56 rfl (lv_at hl 1 rfl) ?_
          refine w_get X hW 8 i1 hi1 rfl rfl inG0 0 (by decide) g187 rfl dX4_melt_57 ?_
          refine w_cVv X hS (m_X4_leadOn l G ad nA nK I6 J6 (I6 8 i3 0) (I6 8 i1 0) hs6) rfl rfl g299 g1 g296 g298 p11 hd_X4_leadOn ⟨Nat.le_of_ble_eq_true rfl, Nat.le_of_ble_eq_true rfl⟩ (k_rec X hW 0 0 Nat.zero_lt_one rfl rfl) hW hl.1 rfl (Nat.le_of_ble_eq_true rfl) dX4_melt_60 (Nat.zero_le _) (Nat.zero_le _) (fun H locs hW hS => ?_)
          obtain ⟨I7, eI7⟩ : ∃ z, z = kLead nA (I6 8 i3 0) (I6 8 i1 0) I6 := ⟨_, rfl⟩
          rw [← eI7] at hW
          have hs7 : k_S nA nK I7 := by rw [eI7]; exact (kLead_S hs6)
          refine lv_aload_n hx hb dX4_melt_63 rfl (lv_at hl 2 rfl) ?_
          refine w_cVv X hS (m_X4_settle l G ad nA nK I7 J6  hs7) rfl rfl g95 g1 g92 g94 p0 hd_X4_settle ⟨Nat.le_of_ble_eq_true rfl, Nat.le_of_ble_eq_true rfl⟩ (k_rec X hW 0 0 Nat.zero_lt_one rfl rfl) hW hl.1 rfl (Nat.le_of_ble_eq_true rfl) dX4_melt_64 (Nat.zero_le _) (Nat.zero_le _) (fun H locs hW hS => ?_)
          obtain ⟨I8, eI8⟩ : ∃ z, z = (kSettle nA nK (I7, J6)).1 := ⟨_, rfl⟩
          rw [← eI8] at hW
          have hs8 : k_S nA nK I8 := by rw [eI8]; exact (kSettle_S (s := (I7, J6)) hs7)
          obtain ⟨J8, eJ8⟩ : ∃ z, z = (kSettle nA nK (I7, J6)).2 := ⟨_, rfl⟩
          rw [← eJ8] at hW
          refine lv_iconst (v := 1) hx hb dX4_melt_67 (by decide) ?_
          exact w_iret X hr hlk hS (by first | rfl | (simp [cMelt, cMelt2, hq1, hq3, c_4, c_5, eI6, eJ6, eI7, eI8, eJ8]; done) | (subst eJ8 eI8 eI7 eJ6 eI6; simp [cMelt, cMelt2, hq1, hq3, c_4, c_5]; done) | (simp [cMelt, cMelt2, hq1, hq3, c_4, c_5, eI6, eJ6, eI7, eI8, eJ8]; rfl)) (hW.to (by first | rfl | (subst eJ8 eI8 eI7 eJ6 eI6; simp [cMelt, cMelt2, hq1, hq3, c_4, c_5]; done) | (subst eJ8 eI8 eI7 eJ6 eI6; rfl) | (subst eJ8 eI8 eI7 eJ6 eI6; simp [cMelt, cMelt2, hq1, hq3, c_4, c_5]; done) | (subst eJ8 eI8 eI7 eJ6 eI6; simp [cMelt, cMelt2, hq1, hq3, c_4, c_5]; rfl) | (simp [cMelt, cMelt2, hq1, hq3, c_4, c_5, eI6, eJ6, eI7, eI8, eJ8]; done)) (by first | rfl | (subst eJ8 eI8 eI7 eJ6 eI6; simp [cMelt, cMelt2, hq1, hq3, c_4, c_5]; done) | (subst eJ8 eI8 eI7 eJ6 eI6; rfl) | (subst eJ8 eI8 eI7 eJ6 eI6; simp [cMelt, cMelt2, hq1, hq3, c_4, c_5]; done) | (subst eJ8 eI8 eI7 eJ6 eI6; simp [cMelt, cMelt2, hq1, hq3, c_4, c_5]; rfl) | (simp [cMelt, cMelt2, hq1, hq3, c_4, c_5, eI6, eJ6, eI7, eI8, eJ8]; done))) dX4_melt_68
        · skip
          refine lv_sipush (v := (-1003)) hx hb dX4_melt_40 (by decide) ?_
          exact w_iret X hr hlk hS (by first | rfl | (simp [cMelt, cMelt2, hq1, hq3, c_4, c_5]; done) | (simp [cMelt, cMelt2, hq1, hq3, c_4, c_5]; rfl)) (hW.to (by first | rfl | (simp [cMelt, cMelt2, hq1, hq3, c_4, c_5]; done)) (by first | rfl | (simp [cMelt, cMelt2, hq1, hq3, c_4, c_5]; done))) dX4_melt_43
set_option maxHeartbeats 4000000 in
set_option maxRecDepth 100000 in
theorem m_X4_vote (l : Launch) (G : k_G) (ad : Nat → Nat → Nat) (nA nK : Nat) (I : k_I) (J : k_J) (a : Int32) (up : Bool) (hs : k_S nA nK I) : k_Met l yX4_vote cX4_vote 4 (some FieldType.int) { frames := 1, cells := 0, slots := 0, locals := 21 } G [.ref (ad 0 0), .int a, .int (k_b up)] (Wd G ad nA nK I J) (some (.int ((cVote nA a up (I, J)).1))) (Wd G ad nA nK ((cVote nA a up (I, J)).2.1) ((cVote nA a up (I, J)).2.2)) 0 0 := by
  refine k_body (by decide) (Nat.le_of_ble_eq_true rfl) ?_
  intro p e s m below meth c ls X hr hlk hnm hW hS hl
  have hx := X.1.1
  have hb := X.1.2.1
  have hG := X.1.2.2.2.2
  have hA24 := hs.2.2.1
  have hK30 := hs.2.2.2.1
  have hl : lv_has ls 4 [(0, .ref (ad 0 0)), (1, .int a), (2, .int (k_b up))] := hl
  refine lv_aload_n hx hb dX4_vote_0 rfl (lv_at hl 0 rfl) ?_
  refine lv_iload_n hx hb dX4_vote_1 rfl (lv_at hl 1 rfl) ?_
  refine w_cV1 X hS (m_X4_answerAt l G ad nA nK I J a hs) rfl rfl g99 g1 g96 g98 p1 hd_X4_answerAt ⟨Nat.le_of_ble_eq_true rfl, Nat.le_of_ble_eq_true rfl⟩ (k_rec X hW 0 0 Nat.zero_lt_one rfl rfl) hW hl.1 rfl (Nat.le_of_ble_eq_true rfl) dX4_vote_2 (Nat.zero_le _) (Nat.zero_le _) (fun H locs hW hS => ?_)
  rcases hq1 : kAns nA a with _ | i1
  · skip
    refine lv_astore_nN (lv' := [(3, .null), (0, .ref (ad 0 0)), (1, .int a), (2, .int (k_b up))]) hx hb dX4_vote_5 rfl hl (by decide) rfl (fun ls hl => ?_)
    refine lv_aload_nN hx hb dX4_vote_6 rfl (lv_at hl 0 rfl) ?_
    refine lv_ifnonnullN hx hb dX4_vote_7 ?_
    refine lv_sipush (v := (-1001)) hx hb dX4_vote_10 (by decide) ?_
    exact w_iret X hr hlk hS (by first | rfl | (simp [cVote, k_up_s, upd_s, hq1]; done) | (simp [cVote, k_up_s, upd_s, hq1]; rfl)) (hW.to (by first | rfl | (simp [cVote, k_up_s, upd_s, hq1]; done)) (by first | rfl | (simp [cVote, k_up_s, upd_s, hq1]; done))) dX4_vote_13
  · skip
    have hi1 := kAns_b hq1
    refine lv_astore_n (lv' := [(3, .ref (ad 8 i1)), (0, .ref (ad 0 0)), (1, .int a), (2, .int (k_b up))]) hx hb dX4_vote_5 rfl hl (by decide) rfl (fun ls hl => ?_)
    refine lv_aload_n hx hb dX4_vote_6 rfl (lv_at hl 0 rfl) ?_
    refine lv_ifnonnull (tgt := 14) hx hb dX4_vote_7 (by decide) ?_
    refine lv_aload_n hx hb dX4_vote_14 rfl (lv_at hl 0 rfl) ?_
    refine w_cV1 X hS (m_X0_isMoved l G ad nA nK I J i1 hi1) rfl rfl g274 g5 g295 g272 g273 hd_X0_isMoved ⟨Nat.le_of_ble_eq_true rfl, Nat.le_of_ble_eq_true rfl⟩ (k_rec X hW 8 i1 hi1 rfl rfl) hW hl.1 rfl (Nat.le_of_ble_eq_true rfl) dX4_vote_15 (Nat.zero_le _) (Nat.zero_le _) (fun H locs hW hS => ?_)
    refine lb_if_eq (tgt := 25) hx hb dX4_vote_18 (by decide) (fun c_2 => ?_) (fun c_2 => ?_)
    · skip
      refine lv_aload_n hx hb dX4_vote_25 rfl (lv_at hl 0 rfl) ?_
      refine lv_dup hx hb dX4_vote_26 rfl ?_
      refine w_get X hW 8 i1 hi1 rfl rfl inG0 8 (by decide) g201 rfl dX4_vote_27 ?_
      refine lv_iload_n hx hb dX4_vote_30 rfl (lv_at hl 3 rfl) ?_
      refine lb_if_eq (tgt := 38) hx hb dX4_vote_31 (by decide) (fun c_3 => ?_) (fun c_3 => ?_)
      · skip
        refine lv_iconst (v := (-1)) hx hb dX4_vote_38 (by decide) ?_
        refine lv_iadd hx hb dX4_vote_39 ?_
        refine w_puti X hW hS 8 i1 hi1 rfl rfl inG0 tyX0 tyX0_ok nmX0 8 (by decide) g201 rfl rfl rfl (Nat.le_of_ble_eq_true rfl) rfl dX4_vote_40 (fun H locs hW hS => ?_)
        obtain ⟨I4, eI4⟩ : ∃ z, z = k_up I 8 i1 (upd (I 8 i1) 8 ((I 8 i1 8) + (-1))) := ⟨_, rfl⟩
        rw [← eI4] at hW
        have hs4 : k_S nA nK I4 := by rw [eI4]; exact hs.up 8 _ _ (by decide)
        refine lv_aload_n hx hb dX4_vote_43 rfl (lv_at hl 0 rfl) ?_
        refine w_get X hW 8 i1 hi1 rfl rfl inG0 8 (by decide) g201 rfl dX4_vote_44 ?_
        exact w_iret X hr hlk hS (by first | rfl | (simp [cVote, k_up_s, upd_s, hq1, c_2, c_3, eI4]; done) | (subst eI4; simp [cVote, k_up_s, upd_s, hq1, c_2, c_3]; done) | (simp [cVote, k_up_s, upd_s, hq1, c_2, c_3, eI4]; rfl)) (hW.to (by first | rfl | (subst eI4; simp [cVote, k_up_s, upd_s, hq1, c_2, c_3]; done) | (subst eI4; rfl) | (subst eI4; simp [cVote, k_up_s, upd_s, hq1, c_2, c_3]; done) | (subst eI4; simp [cVote, k_up_s, upd_s, hq1, c_2, c_3]; rfl) | (simp [cVote, k_up_s, upd_s, hq1, c_2, c_3, eI4]; done)) (by first | rfl | (subst eI4; simp [cVote, k_up_s, upd_s, hq1, c_2, c_3]; done) | (subst eI4; rfl) | (subst eI4; simp [cVote, k_up_s, upd_s, hq1, c_2, c_3]; done) | (subst eI4; simp [cVote, k_up_s, upd_s, hq1, c_2, c_3]; rfl) | (simp [cVote, k_up_s, upd_s, hq1, c_2, c_3, eI4]; done))) dX4_vote_47
      · skip
        refine lv_iconst (v := 1) hx hb dX4_vote_34 (by decide) ?_
        refine lv_goto (tgt := 39) hx hb dX4_vote_35 (by decide) ?_
        refine lv_iadd hx hb dX4_vote_39 ?_
        refine w_puti X hW hS 8 i1 hi1 rfl rfl inG0 tyX0 tyX0_ok nmX0 8 (by decide) g201 rfl rfl rfl (Nat.le_of_ble_eq_true rfl) rfl dX4_vote_40 (fun H locs hW hS => ?_)
        obtain ⟨I5, eI5⟩ : ∃ z, z = k_up I 8 i1 (upd (I 8 i1) 8 ((I 8 i1 8) + 1)) := ⟨_, rfl⟩
        rw [← eI5] at hW
        have hs5 : k_S nA nK I5 := by rw [eI5]; exact hs.up 8 _ _ (by decide)
        refine lv_aload_n hx hb dX4_vote_43 rfl (lv_at hl 0 rfl) ?_
        refine w_get X hW 8 i1 hi1 rfl rfl inG0 8 (by decide) g201 rfl dX4_vote_44 ?_
        exact w_iret X hr hlk hS (by first | rfl | (simp [cVote, k_up_s, upd_s, hq1, c_2, c_3, eI5]; done) | (subst eI5; simp [cVote, k_up_s, upd_s, hq1, c_2, c_3]; done) | (simp [cVote, k_up_s, upd_s, hq1, c_2, c_3, eI5]; rfl)) (hW.to (by first | rfl | (subst eI5; simp [cVote, k_up_s, upd_s, hq1, c_2, c_3]; done) | (subst eI5; rfl) | (subst eI5; simp [cVote, k_up_s, upd_s, hq1, c_2, c_3]; done) | (subst eI5; simp [cVote, k_up_s, upd_s, hq1, c_2, c_3]; rfl) | (simp [cVote, k_up_s, upd_s, hq1, c_2, c_3, eI5]; done)) (by first | rfl | (subst eI5; simp [cVote, k_up_s, upd_s, hq1, c_2, c_3]; done) | (subst eI5; rfl) | (subst eI5; simp [cVote, k_up_s, upd_s, hq1, c_2, c_3]; done) | (subst eI5; simp [cVote, k_up_s, upd_s, hq1, c_2, c_3]; rfl) | (simp [cVote, k_up_s, upd_s, hq1, c_2, c_3, eI5]; done))) dX4_vote_47
    · skip
      refine lv_sipush (v := (-1003)) hx hb dX4_vote_21 (by decide) ?_
      exact w_iret X hr hlk hS (by first | rfl | (simp [cVote, k_up_s, upd_s, hq1, c_2]; done) | (simp [cVote, k_up_s, upd_s, hq1, c_2]; rfl)) (hW.to (by first | rfl | (simp [cVote, k_up_s, upd_s, hq1, c_2]; done)) (by first | rfl | (simp [cVote, k_up_s, upd_s, hq1, c_2]; done))) dX4_vote_24
set_option maxHeartbeats 4000000 in
set_option maxRecDepth 100000 in
theorem m_X4_told (l : Launch) (G : k_G) (ad : Nat → Nat → Nat) (nA nK : Nat) (I : k_I) (J : k_J) (a : Int32) (w : Int32) (hs : k_S nA nK I) : k_Met l yX4_told cX4_told 4 (some FieldType.int) { frames := 3, cells := 0, slots := 0, locals := 66 } G [.ref (ad 0 0), .int a, .int w] (Wd G ad nA nK I J) (some (.int (cTold nA I a w))) (Wd G ad nA nK I J) 0 0 := by
  refine k_body (by decide) (Nat.le_of_ble_eq_true rfl) ?_
  intro p e s m below meth c ls X hr hlk hnm hW hS hl
  have hx := X.1.1
  have hb := X.1.2.1
  have hG := X.1.2.2.2.2
  have hA24 := hs.2.2.1
  have hK30 := hs.2.2.2.1
  have hl : lv_has ls 4 [(0, .ref (ad 0 0)), (1, .int a), (2, .int w)] := hl
  refine lv_aload_n hx hb dX4_told_0 rfl (lv_at hl 0 rfl) ?_
  refine lv_iload_n hx hb dX4_told_1 rfl (lv_at hl 1 rfl) ?_
  refine w_cV1 X hS (m_X4_answerAt l G ad nA nK I J a hs) rfl rfl g99 g1 g96 g98 p1 hd_X4_answerAt ⟨Nat.le_of_ble_eq_true rfl, Nat.le_of_ble_eq_true rfl⟩ (k_rec X hW 0 0 Nat.zero_lt_one rfl rfl) hW hl.1 rfl (Nat.le_of_ble_eq_true rfl) dX4_told_2 (Nat.zero_le _) (Nat.zero_le _) (fun H locs hW hS => ?_)
  rcases hq1 : kAns nA a with _ | i1
  · skip
    refine lv_astore_nN (lv' := [(3, .null), (0, .ref (ad 0 0)), (1, .int a), (2, .int w)]) hx hb dX4_told_5 rfl hl (by decide) rfl (fun ls hl => ?_)
    refine lv_aload_nN hx hb dX4_told_6 rfl (lv_at hl 0 rfl) ?_
    refine lv_ifnonnullN hx hb dX4_told_7 ?_
    refine lv_sipush (v := (-1001)) hx hb dX4_told_10 (by decide) ?_
    exact w_iret X hr hlk hS (by first | rfl | (simp [cTold, k_b, hq1]; done) | (simp [cTold, k_b, hq1]; rfl)) hW dX4_told_13
  · skip
    have hi1 := kAns_b hq1
    refine lv_astore_n (lv' := [(3, .ref (ad 8 i1)), (0, .ref (ad 0 0)), (1, .int a), (2, .int w)]) hx hb dX4_told_5 rfl hl (by decide) rfl (fun ls hl => ?_)
    refine lv_aload_n hx hb dX4_told_6 rfl (lv_at hl 0 rfl) ?_
    refine lv_ifnonnull (tgt := 14) hx hb dX4_told_7 (by decide) ?_
    refine lv_iload_n hx hb dX4_told_14 rfl (lv_at hl 3 rfl) ?_
    rcases k_sw0_13 w with c_2 | c_2 | c_2 | c_2 | c_2 | c_2 | c_2 | c_2 | c_2 | c_2 | c_2 | c_2 | c_2 | c_2 | c_2
    · skip
      subst c_2
      refine lv_tableIn (tgt := 84) hx hb dX4_told_15 (by decide) (by decide) rfl (by decide) ?_
      refine lv_aload_n hx hb dX4_told_84 rfl (lv_at hl 0 rfl) ?_
      refine w_cV1 X hS (m_X0_kindNow l G ad nA nK I J i1 hi1) rfl rfl g270 g5 g267 g268 g269 hd_X0_kindNow ⟨Nat.le_of_ble_eq_true rfl, Nat.le_of_ble_eq_true rfl⟩ (k_rec X hW 8 i1 hi1 rfl rfl) hW hl.1 rfl (Nat.le_of_ble_eq_true rfl) dX4_told_85 (Nat.zero_le _) (Nat.zero_le _) (fun H locs hW hS => ?_)
      exact w_iret X hr hlk hS (by first | rfl | (simp [cTold, k_b, hq1]; done) | (simp [cTold, k_b, hq1]; rfl)) hW dX4_told_88
    · skip
      subst c_2
      refine lv_tableIn (tgt := 89) hx hb dX4_told_15 (by decide) (by decide) rfl (by decide) ?_
      refine lv_aload_n hx hb dX4_told_89 rfl (lv_at hl 0 rfl) ?_
      refine w_get X hW 8 i1 hi1 rfl rfl inG0 9 (by decide) g203 rfl dX4_told_90 ?_
      exact w_iret X hr hlk hS (by first | rfl | (simp [cTold, k_b, hq1]; done) | (simp [cTold, k_b, hq1]; rfl)) hW dX4_told_93
    · skip
      subst c_2
      refine lv_tableIn (tgt := 94) hx hb dX4_told_15 (by decide) (by decide) rfl (by decide) ?_
      refine lv_aload_n hx hb dX4_told_94 rfl (lv_at hl 0 rfl) ?_
      refine w_get X hW 8 i1 hi1 rfl rfl inG0 2 (by decide) g191 rfl dX4_told_95 ?_
      exact w_iret X hr hlk hS (by first | rfl | (simp [cTold, k_b, hq1]; done) | (simp [cTold, k_b, hq1]; rfl)) hW dX4_told_98
    · skip
      subst c_2
      refine lv_tableIn (tgt := 99) hx hb dX4_told_15 (by decide) (by decide) rfl (by decide) ?_
      refine lv_aload_n hx hb dX4_told_99 rfl (lv_at hl 0 rfl) ?_
      refine lv_iload_n hx hb dX4_told_100 rfl (lv_at hl 3 rfl) ?_
      refine lv_iconst (v := 3) hx hb dX4_told_101 (by decide) ?_
      refine lv_isub hx hb dX4_told_102 ?_
      refine w_cV1 X hS (m_X0_setOf l G ad nA nK I J i1 (3 - 3) hi1) rfl rfl g152 g5 g310 g150 g151 hd_X0_setOf ⟨Nat.le_of_ble_eq_true rfl, Nat.le_of_ble_eq_true rfl⟩ (k_rec X hW 8 i1 hi1 rfl rfl) hW hl.1 rfl (Nat.le_of_ble_eq_true rfl) dX4_told_103 (Nat.zero_le _) (Nat.zero_le _) (fun H locs hW hS => ?_)
      exact w_iret X hr hlk hS (by first | rfl | (simp [cTold, k_b, hq1]; done) | (simp [cTold, k_b, hq1]; rfl)) hW dX4_told_106
    · skip
      subst c_2
      refine lv_tableIn (tgt := 99) hx hb dX4_told_15 (by decide) (by decide) rfl (by decide) ?_
      refine lv_aload_n hx hb dX4_told_99 rfl (lv_at hl 0 rfl) ?_
      refine lv_iload_n hx hb dX4_told_100 rfl (lv_at hl 3 rfl) ?_
      refine lv_iconst (v := 3) hx hb dX4_told_101 (by decide) ?_
      refine lv_isub hx hb dX4_told_102 ?_
      refine w_cV1 X hS (m_X0_setOf l G ad nA nK I J i1 (4 - 3) hi1) rfl rfl g152 g5 g310 g150 g151 hd_X0_setOf ⟨Nat.le_of_ble_eq_true rfl, Nat.le_of_ble_eq_true rfl⟩ (k_rec X hW 8 i1 hi1 rfl rfl) hW hl.1 rfl (Nat.le_of_ble_eq_true rfl) dX4_told_103 (Nat.zero_le _) (Nat.zero_le _) (fun H locs hW hS => ?_)
      exact w_iret X hr hlk hS (by first | rfl | (simp [cTold, k_b, hq1]; done) | (simp [cTold, k_b, hq1]; rfl)) hW dX4_told_106
    · skip
      subst c_2
      refine lv_tableIn (tgt := 99) hx hb dX4_told_15 (by decide) (by decide) rfl (by decide) ?_
      refine lv_aload_n hx hb dX4_told_99 rfl (lv_at hl 0 rfl) ?_
      refine lv_iload_n hx hb dX4_told_100 rfl (lv_at hl 3 rfl) ?_
      refine lv_iconst (v := 3) hx hb dX4_told_101 (by decide) ?_
      refine lv_isub hx hb dX4_told_102 ?_
      refine w_cV1 X hS (m_X0_setOf l G ad nA nK I J i1 (5 - 3) hi1) rfl rfl g152 g5 g310 g150 g151 hd_X0_setOf ⟨Nat.le_of_ble_eq_true rfl, Nat.le_of_ble_eq_true rfl⟩ (k_rec X hW 8 i1 hi1 rfl rfl) hW hl.1 rfl (Nat.le_of_ble_eq_true rfl) dX4_told_103 (Nat.zero_le _) (Nat.zero_le _) (fun H locs hW hS => ?_)
      exact w_iret X hr hlk hS (by first | rfl | (simp [cTold, k_b, hq1]; done) | (simp [cTold, k_b, hq1]; rfl)) hW dX4_told_106
    · skip
      subst c_2
      refine lv_tableIn (tgt := 107) hx hb dX4_told_15 (by decide) (by decide) rfl (by decide) ?_
      refine lv_aload_n hx hb dX4_told_107 rfl (lv_at hl 0 rfl) ?_
      refine w_get X hW 8 i1 hi1 rfl rfl inG0 6 (by decide) g197 rfl dX4_told_108 ?_
      exact w_iret X hr hlk hS (by first | rfl | (simp [cTold, k_b, hq1]; done) | (simp [cTold, k_b, hq1]; rfl)) hW dX4_told_111
    · skip
      subst c_2
      refine lv_tableIn (tgt := 112) hx hb dX4_told_15 (by decide) (by decide) rfl (by decide) ?_
      refine lv_aload_n hx hb dX4_told_112 rfl (lv_at hl 0 rfl) ?_
      refine w_cV1 X hS (m_X0_isDoubted l G ad nA nK I J i1 hi1) rfl rfl g290 g5 g287 g288 g289 hd_X0_isDoubted ⟨Nat.le_of_ble_eq_true rfl, Nat.le_of_ble_eq_true rfl⟩ (k_rec X hW 8 i1 hi1 rfl rfl) hW hl.1 rfl (Nat.le_of_ble_eq_true rfl) dX4_told_113 (Nat.zero_le _) (Nat.zero_le _) (fun H locs hW hS => ?_)
      refine lb_if_eq (tgt := 123) hx hb dX4_told_116 (by decide) (fun c_3 => ?_) (fun c_3 => ?_)
      · skip
        refine lv_iconst (v := 0) hx hb dX4_told_123 (by decide) ?_
        exact w_iret X hr hlk hS (by first | rfl | (simp [cTold, k_b, hq1, c_3]; done) | (simp [cTold, k_b, hq1, c_3]; rfl)) hW dX4_told_124
      · skip
        refine lv_iconst (v := 1) hx hb dX4_told_119 (by decide) ?_
        refine lv_goto (tgt := 124) hx hb dX4_told_120 (by decide) ?_
        exact w_iret X hr hlk hS (by first | rfl | (simp [cTold, k_b, hq1, c_3]; done) | (simp [cTold, k_b, hq1, c_3]; rfl)) hW dX4_told_124
    · skip
      subst c_2
      refine lv_tableIn (tgt := 125) hx hb dX4_told_15 (by decide) (by decide) rfl (by decide) ?_
      refine lv_aload_n hx hb dX4_told_125 rfl (lv_at hl 0 rfl) ?_
      refine w_get X hW 8 i1 hi1 rfl rfl inG0 8 (by decide) g201 rfl dX4_told_126 ?_
      exact w_iret X hr hlk hS (by first | rfl | (simp [cTold, k_b, hq1]; done) | (simp [cTold, k_b, hq1]; rfl)) hW dX4_told_129
    · skip
      subst c_2
      refine lv_tableIn (tgt := 130) hx hb dX4_told_15 (by decide) (by decide) rfl (by decide) ?_
      refine lv_aload_n hx hb dX4_told_130 rfl (lv_at hl 0 rfl) ?_
      refine w_cV1 X hS (m_X0_partCount l G ad nA nK I J i1 hi1) rfl rfl g332 g5 g329 g330 g331 hd_X0_partCount ⟨Nat.le_of_ble_eq_true rfl, Nat.le_of_ble_eq_true rfl⟩ (k_rec X hW 8 i1 hi1 rfl rfl) hW hl.1 rfl (Nat.le_of_ble_eq_true rfl) dX4_told_131 (Nat.zero_le _) (Nat.zero_le _) (fun H locs hW hS => ?_)
      exact w_iret X hr hlk hS (by first | rfl | (simp [cTold, k_b, hq1]; done) | (simp [cTold, k_b, hq1]; rfl)) hW dX4_told_134
    · skip
      subst c_2
      refine lv_tableIn (tgt := 135) hx hb dX4_told_15 (by decide) (by decide) rfl (by decide) ?_
      refine lv_aload_n hx hb dX4_told_135 rfl (lv_at hl 1 rfl) ?_
      refine lv_aload_n hx hb dX4_told_136 rfl (lv_at hl 0 rfl) ?_
      refine lv_iload_n hx hb dX4_told_137 rfl (lv_at hl 3 rfl) ?_
      refine lv_bipush (v := 10) hx hb dX4_told_138 (by decide) ?_
      refine lv_isub hx hb dX4_told_140 ?_
      refine w_cV1 X hS (m_X4_partNow l G ad nA nK I J i1 (10 - 10) hi1 hs) rfl rfl g336 g1 g333 g335 p12 hd_X4_partNow ⟨Nat.le_of_ble_eq_true rfl, Nat.le_of_ble_eq_true rfl⟩ (k_rec X hW 0 0 Nat.zero_lt_one rfl rfl) hW hl.1 rfl (Nat.le_of_ble_eq_true rfl) dX4_told_141 (Nat.zero_le _) (Nat.zero_le _) (fun H locs hW hS => ?_)
      exact w_iret X hr hlk hS (by first | rfl | (simp [cTold, k_b, hq1]; done) | (simp [cTold, k_b, hq1]; rfl)) hW dX4_told_144
    · skip
      subst c_2
      refine lv_tableIn (tgt := 135) hx hb dX4_told_15 (by decide) (by decide) rfl (by decide) ?_
      refine lv_aload_n hx hb dX4_told_135 rfl (lv_at hl 1 rfl) ?_
      refine lv_aload_n hx hb dX4_told_136 rfl (lv_at hl 0 rfl) ?_
      refine lv_iload_n hx hb dX4_told_137 rfl (lv_at hl 3 rfl) ?_
      refine lv_bipush (v := 10) hx hb dX4_told_138 (by decide) ?_
      refine lv_isub hx hb dX4_told_140 ?_
      refine w_cV1 X hS (m_X4_partNow l G ad nA nK I J i1 (11 - 10) hi1 hs) rfl rfl g336 g1 g333 g335 p12 hd_X4_partNow ⟨Nat.le_of_ble_eq_true rfl, Nat.le_of_ble_eq_true rfl⟩ (k_rec X hW 0 0 Nat.zero_lt_one rfl rfl) hW hl.1 rfl (Nat.le_of_ble_eq_true rfl) dX4_told_141 (Nat.zero_le _) (Nat.zero_le _) (fun H locs hW hS => ?_)
      exact w_iret X hr hlk hS (by first | rfl | (simp [cTold, k_b, hq1]; done) | (simp [cTold, k_b, hq1]; rfl)) hW dX4_told_144
    · skip
      subst c_2
      refine lv_tableIn (tgt := 135) hx hb dX4_told_15 (by decide) (by decide) rfl (by decide) ?_
      refine lv_aload_n hx hb dX4_told_135 rfl (lv_at hl 1 rfl) ?_
      refine lv_aload_n hx hb dX4_told_136 rfl (lv_at hl 0 rfl) ?_
      refine lv_iload_n hx hb dX4_told_137 rfl (lv_at hl 3 rfl) ?_
      refine lv_bipush (v := 10) hx hb dX4_told_138 (by decide) ?_
      refine lv_isub hx hb dX4_told_140 ?_
      refine w_cV1 X hS (m_X4_partNow l G ad nA nK I J i1 (12 - 10) hi1 hs) rfl rfl g336 g1 g333 g335 p12 hd_X4_partNow ⟨Nat.le_of_ble_eq_true rfl, Nat.le_of_ble_eq_true rfl⟩ (k_rec X hW 0 0 Nat.zero_lt_one rfl rfl) hW hl.1 rfl (Nat.le_of_ble_eq_true rfl) dX4_told_141 (Nat.zero_le _) (Nat.zero_le _) (fun H locs hW hS => ?_)
      exact w_iret X hr hlk hS (by first | rfl | (simp [cTold, k_b, hq1]; done) | (simp [cTold, k_b, hq1]; rfl)) hW dX4_told_144
    · skip
      subst c_2
      refine lv_tableIn (tgt := 135) hx hb dX4_told_15 (by decide) (by decide) rfl (by decide) ?_
      refine lv_aload_n hx hb dX4_told_135 rfl (lv_at hl 1 rfl) ?_
      refine lv_aload_n hx hb dX4_told_136 rfl (lv_at hl 0 rfl) ?_
      refine lv_iload_n hx hb dX4_told_137 rfl (lv_at hl 3 rfl) ?_
      refine lv_bipush (v := 10) hx hb dX4_told_138 (by decide) ?_
      refine lv_isub hx hb dX4_told_140 ?_
      refine w_cV1 X hS (m_X4_partNow l G ad nA nK I J i1 (13 - 10) hi1 hs) rfl rfl g336 g1 g333 g335 p12 hd_X4_partNow ⟨Nat.le_of_ble_eq_true rfl, Nat.le_of_ble_eq_true rfl⟩ (k_rec X hW 0 0 Nat.zero_lt_one rfl rfl) hW hl.1 rfl (Nat.le_of_ble_eq_true rfl) dX4_told_141 (Nat.zero_le _) (Nat.zero_le _) (fun H locs hW hS => ?_)
      exact w_iret X hr hlk hS (by first | rfl | (simp [cTold, k_b, hq1]; done) | (simp [cTold, k_b, hq1]; rfl)) hW dX4_told_144
    · skip
      refine lv_tableOut (tgt := 145) hx hb dX4_told_15 c_2 (by decide) ?_
      have c_2_0 : ¬ w = 0 := fun h => by rw [h] at c_2; revert c_2; decide
      have c_2_1 : ¬ w = 1 := fun h => by rw [h] at c_2; revert c_2; decide
      have c_2_2 : ¬ w = 2 := fun h => by rw [h] at c_2; revert c_2; decide
      have c_2_3 : ¬ w = 3 := fun h => by rw [h] at c_2; revert c_2; decide
      have c_2_4 : ¬ w = 4 := fun h => by rw [h] at c_2; revert c_2; decide
      have c_2_5 : ¬ w = 5 := fun h => by rw [h] at c_2; revert c_2; decide
      have c_2_6 : ¬ w = 6 := fun h => by rw [h] at c_2; revert c_2; decide
      have c_2_7 : ¬ w = 7 := fun h => by rw [h] at c_2; revert c_2; decide
      have c_2_8 : ¬ w = 8 := fun h => by rw [h] at c_2; revert c_2; decide
      have c_2_9 : ¬ w = 9 := fun h => by rw [h] at c_2; revert c_2; decide
      have c_2_10 : ¬ w = 10 := fun h => by rw [h] at c_2; revert c_2; decide
      have c_2_11 : ¬ w = 11 := fun h => by rw [h] at c_2; revert c_2; decide
      have c_2_12 : ¬ w = 12 := fun h => by rw [h] at c_2; revert c_2; decide
      have c_2_13 : ¬ w = 13 := fun h => by rw [h] at c_2; revert c_2; decide
      refine lv_sipush (v := (-1002)) hx hb dX4_told_145 (by decide) ?_
      exact w_iret X hr hlk hS (by first | rfl | (simp [cTold, k_b, hq1, c_2_0, c_2_1, c_2_2, c_2_3, c_2_4, c_2_5, c_2_6, c_2_7, c_2_8, c_2_9, c_2_10, c_2_11, c_2_12, c_2_13]; done) | (simp [cTold, k_b, hq1, c_2_0, c_2_1, c_2_2, c_2_3, c_2_4, c_2_5, c_2_6, c_2_7, c_2_8, c_2_9, c_2_10, c_2_11, c_2_12, c_2_13]; rfl)) hW dX4_told_148
set_option maxHeartbeats 4000000 in
set_option maxRecDepth 100000 in
theorem m_X4_words (l : Launch) (G : k_G) (ad : Nat → Nat → Nat) (nA nK : Nat) (I : k_I) (J : k_J) (a : Int32) (hs : k_S nA nK I) : k_Met l yX4_words cX4_words 3 (some FieldType.long) { frames := 1, cells := 0, slots := 0, locals := 21 } G [.ref (ad 0 0), .int a] (Wd G ad nA nK I J) (some (.long (cWords nA J a))) (Wd G ad nA nK I J) 0 0 := by
  refine k_body (by decide) (Nat.le_of_ble_eq_true rfl) ?_
  intro p e s m below meth c ls X hr hlk hnm hW hS hl
  have hx := X.1.1
  have hb := X.1.2.1
  have hG := X.1.2.2.2.2
  have hA24 := hs.2.2.1
  have hK30 := hs.2.2.2.1
  have hl : lv_has ls 3 [(0, .ref (ad 0 0)), (1, .int a)] := hl
  refine lv_aload_n hx hb dX4_words_0 rfl (lv_at hl 0 rfl) ?_
  refine lv_iload_n hx hb dX4_words_1 rfl (lv_at hl 1 rfl) ?_
  refine w_cV1 X hS (m_X4_answerAt l G ad nA nK I J a hs) rfl rfl g99 g1 g96 g98 p1 hd_X4_answerAt ⟨Nat.le_of_ble_eq_true rfl, Nat.le_of_ble_eq_true rfl⟩ (k_rec X hW 0 0 Nat.zero_lt_one rfl rfl) hW hl.1 rfl (Nat.le_of_ble_eq_true rfl) dX4_words_2 (Nat.zero_le _) (Nat.zero_le _) (fun H locs hW hS => ?_)
  rcases hq1 : kAns nA a with _ | i1
  · skip
    refine lv_astore_nN (lv' := [(2, .null), (0, .ref (ad 0 0)), (1, .int a)]) hx hb dX4_words_5 rfl hl (by decide) rfl (fun ls hl => ?_)
    refine lv_aload_nN hx hb dX4_words_6 rfl (lv_at hl 0 rfl) ?_
    refine lv_ifnonnullN hx hb dX4_words_7 ?_
    refine lv_ldc2 hx hb X.1.2.2.2.1 (hG _ g341) dX4_words_10 ?_
    refine lv_goto (tgt := 20) hx hb dX4_words_13 (by decide) ?_
    exact w_lret X hr hlk hS (by first | rfl | (simp [cWords, hq1]; done) | (simp [cWords, hq1]; rfl)) hW dX4_words_20
  · skip
    have hi1 := kAns_b hq1
    refine lv_astore_n (lv' := [(2, .ref (ad 8 i1)), (0, .ref (ad 0 0)), (1, .int a)]) hx hb dX4_words_5 rfl hl (by decide) rfl (fun ls hl => ?_)
    refine lv_aload_n hx hb dX4_words_6 rfl (lv_at hl 0 rfl) ?_
    refine lv_ifnonnull (tgt := 16) hx hb dX4_words_7 (by decide) ?_
    refine lv_aload_n hx hb dX4_words_16 rfl (lv_at hl 0 rfl) ?_
    refine w_get X hW 8 i1 hi1 rfl rfl inG0 5 (by decide) g195 rfl dX4_words_17 ?_
    exact w_lret X hr hlk hS (by first | rfl | (simp [cWords, hq1]; done) | (simp [cWords, hq1]; rfl)) hW dX4_words_20
set_option maxHeartbeats 4000000 in
set_option maxRecDepth 100000 in
theorem m_X4_holds (l : Launch) (G : k_G) (ad : Nat → Nat → Nat) (nA nK : Nat) (I : k_I) (J : k_J) (a : Int32) (x : Int32) (y : Int32) (z : Int32) (hs : k_S nA nK I) : k_Met l yX4_holds cX4_holds 7 (some FieldType.int) { frames := 2, cells := 0, slots := 0, locals := 43 } G [.ref (ad 0 0), .int a, .int x, .int y, .int z] (Wd G ad nA nK I J) (some (.int (cHolds nA I a x y z))) (Wd G ad nA nK I J) 0 0 := by
  refine k_body (by decide) (Nat.le_of_ble_eq_true rfl) ?_
  intro p e s m below meth c ls X hr hlk hnm hW hS hl
  have hx := X.1.1
  have hb := X.1.2.1
  have hG := X.1.2.2.2.2
  have hA24 := hs.2.2.1
  have hK30 := hs.2.2.2.1
  have hl : lv_has ls 7 [(0, .ref (ad 0 0)), (1, .int a), (2, .int x), (3, .int y), (4, .int z)] := hl
  refine lv_aload_n hx hb dX4_holds_0 rfl (lv_at hl 0 rfl) ?_
  refine lv_iload_n hx hb dX4_holds_1 rfl (lv_at hl 1 rfl) ?_
  refine w_cV1 X hS (m_X4_answerAt l G ad nA nK I J a hs) rfl rfl g99 g1 g96 g98 p1 hd_X4_answerAt ⟨Nat.le_of_ble_eq_true rfl, Nat.le_of_ble_eq_true rfl⟩ (k_rec X hW 0 0 Nat.zero_lt_one rfl rfl) hW hl.1 rfl (Nat.le_of_ble_eq_true rfl) dX4_holds_2 (Nat.zero_le _) (Nat.zero_le _) (fun H locs hW hS => ?_)
  rcases hq1 : kAns nA a with _ | i1
  · skip
    refine lv_astoreN (lv' := [(5, .null), (0, .ref (ad 0 0)), (1, .int a), (2, .int x), (3, .int y), (4, .int z)]) hx hb dX4_holds_5 hl (by decide) rfl (fun ls hl => ?_)
    refine lv_aloadN hx hb dX4_holds_7 (lv_at hl 0 rfl) ?_
    refine lv_ifnonnullN hx hb dX4_holds_9 ?_
    refine lv_sipush (v := (-1001)) hx hb dX4_holds_12 (by decide) ?_
    exact w_iret X hr hlk hS (by first | rfl | (simp [cHolds, k_b, hq1]; done) | (simp [cHolds, k_b, hq1]; rfl)) hW dX4_holds_15
  · skip
    have hi1 := kAns_b hq1
    refine lv_astore (lv' := [(5, .ref (ad 8 i1)), (0, .ref (ad 0 0)), (1, .int a), (2, .int x), (3, .int y), (4, .int z)]) hx hb dX4_holds_5 hl (by decide) rfl (fun ls hl => ?_)
    refine lv_aload hx hb dX4_holds_7 (lv_at hl 0 rfl) ?_
    refine lv_ifnonnull (tgt := 16) hx hb dX4_holds_9 (by decide) ?_
    refine lv_iconst (v := 0) hx hb dX4_holds_16 (by decide) ?_
    refine lv_iload_n hx hb dX4_holds_17 rfl (lv_at hl 3 rfl) ?_
    refine w_cS1 X hS (m_X4_isValue l G (Wd G ad nA nK I J) 0 x ) rfl rfl g348 g1 g346 g347 hd_X4_isValue ⟨Nat.le_of_ble_eq_true rfl, Nat.le_of_ble_eq_true rfl⟩ hW hl.1 rfl (Nat.le_of_ble_eq_true rfl) dX4_holds_18 (Nat.zero_le _) (Nat.zero_le _) (fun H locs hW hS => ?_)
    refine lb_if_eq (tgt := 41) hx hb dX4_holds_21 (by decide) (fun c_2 => ?_) (fun c_2 => ?_)
    · skip
      refine lv_sipush (v := (-1002)) hx hb dX4_holds_41 (by decide) ?_
      exact w_iret X hr hlk hS (by first | rfl | (simp [cHolds, k_b, hq1, c_2]; done) | (simp [cHolds, k_b, hq1, c_2]; rfl)) hW dX4_holds_44
    · skip
      refine lv_iconst (v := 1) hx hb dX4_holds_24 (by decide) ?_
      refine lv_iload_n hx hb dX4_holds_25 rfl (lv_at hl 4 rfl) ?_
      refine w_cS1 X hS (m_X4_isValue l G (Wd G ad nA nK I J) 1 y ) rfl rfl g348 g1 g346 g347 hd_X4_isValue ⟨Nat.le_of_ble_eq_true rfl, Nat.le_of_ble_eq_true rfl⟩ hW hl.1 rfl (Nat.le_of_ble_eq_true rfl) dX4_holds_26 (Nat.zero_le _) (Nat.zero_le _) (fun H locs hW hS => ?_)
      refine lb_if_eq (tgt := 41) hx hb dX4_holds_29 (by decide) (fun c_3 => ?_) (fun c_3 => ?_)
      · skip
        refine lv_sipush (v := (-1002)) hx hb dX4_holds_41 (by decide) ?_
        exact w_iret X hr hlk hS (by first | rfl | (simp [cHolds, k_b, hq1, c_2, c_3]; done) | (simp [cHolds, k_b, hq1, c_2, c_3]; rfl)) hW dX4_holds_44
      · skip
        refine lv_iconst (v := 2) hx hb dX4_holds_32 (by decide) ?_
        refine lv_iload hx hb dX4_holds_33 (lv_at hl 5 rfl) ?_
        refine w_cS1 X hS (m_X4_isValue l G (Wd G ad nA nK I J) 2 z ) rfl rfl g348 g1 g346 g347 hd_X4_isValue ⟨Nat.le_of_ble_eq_true rfl, Nat.le_of_ble_eq_true rfl⟩ hW hl.1 rfl (Nat.le_of_ble_eq_true rfl) dX4_holds_35 (Nat.zero_le _) (Nat.zero_le _) (fun H locs hW hS => ?_)
        refine lb_if_ne (tgt := 45) hx hb dX4_holds_38 (by decide) (fun c_4 => ?_) (fun c_4 => ?_)
        · skip
          refine lv_aload hx hb dX4_holds_45 (lv_at hl 0 rfl) ?_
          refine lv_iconst (v := 0) hx hb dX4_holds_47 (by decide) ?_
          refine lv_iload_n hx hb dX4_holds_48 rfl (lv_at hl 3 rfl) ?_
          refine w_cV1 X hS (m_X0_hasValue l G ad nA nK I J i1 0 x hi1) rfl rfl g352 g5 g349 g350 g351 hd_X0_hasValue ⟨Nat.le_of_ble_eq_true rfl, Nat.le_of_ble_eq_true rfl⟩ (k_rec X hW 8 i1 hi1 rfl rfl) hW hl.1 rfl (Nat.le_of_ble_eq_true rfl) dX4_holds_49 (Nat.zero_le _) (Nat.zero_le _) (fun H locs hW hS => ?_)
          refine lb_if_eq (tgt := 80) hx hb dX4_holds_52 (by decide) (fun c_5 => ?_) (fun c_5 => ?_)
          · skip
            refine lv_iconst (v := 0) hx hb dX4_holds_80 (by decide) ?_
            refine lv_istore (lv' := [(6, .int 0), (5, .ref (ad 8 i1)), (0, .ref (ad 0 0)), (1, .int a), (2, .int x), (3, .int y), (4, .int z)]) hx hb dX4_holds_81 hl (by decide) rfl (fun ls hl => ?_)
            refine lv_iload hx hb dX4_holds_83 (lv_at hl 0 rfl) ?_
            refine lv_if_eq (tgt := 100) hx hb dX4_holds_85 (by decide) (fun _ => ?_) (fun c_6 => absurd (by decide) c_6)
            refine lv_iconst (v := 0) hx hb dX4_holds_100 (by decide) ?_
            exact w_iret X hr hlk hS (by first | rfl | (simp [cHolds, k_b, hq1, c_2, c_3, c_4, c_5]; done) | (simp [cHolds, k_b, hq1, c_2, c_3, c_4, c_5]; rfl)) hW dX4_holds_101
          · skip
            refine lv_aload hx hb dX4_holds_55 (lv_at hl 0 rfl) ?_
            refine lv_iconst (v := 1) hx hb dX4_holds_57 (by decide) ?_
            refine lv_iload_n hx hb dX4_holds_58 rfl (lv_at hl 4 rfl) ?_
            refine w_cV1 X hS (m_X0_hasValue l G ad nA nK I J i1 1 y hi1) rfl rfl g352 g5 g349 g350 g351 hd_X0_hasValue ⟨Nat.le_of_ble_eq_true rfl, Nat.le_of_ble_eq_true rfl⟩ (k_rec X hW 8 i1 hi1 rfl rfl) hW hl.1 rfl (Nat.le_of_ble_eq_true rfl) dX4_holds_59 (Nat.zero_le _) (Nat.zero_le _) (fun H locs hW hS => ?_)
            refine lb_if_eq (tgt := 80) hx hb dX4_holds_62 (by decide) (fun c_7 => ?_) (fun c_7 => ?_)
            · skip
              refine lv_iconst (v := 0) hx hb dX4_holds_80 (by decide) ?_
              refine lv_istore (lv' := [(6, .int 0), (5, .ref (ad 8 i1)), (0, .ref (ad 0 0)), (1, .int a), (2, .int x), (3, .int y), (4, .int z)]) hx hb dX4_holds_81 hl (by decide) rfl (fun ls hl => ?_)
              refine lv_iload hx hb dX4_holds_83 (lv_at hl 0 rfl) ?_
              refine lv_if_eq (tgt := 100) hx hb dX4_holds_85 (by decide) (fun _ => ?_) (fun c_8 => absurd (by decide) c_8)
              refine lv_iconst (v := 0) hx hb dX4_holds_100 (by decide) ?_
              exact w_iret X hr hlk hS (by first | rfl | (simp [cHolds, k_b, hq1, c_2, c_3, c_4, c_5, c_7]; done) | (simp [cHolds, k_b, hq1, c_2, c_3, c_4, c_5, c_7]; rfl)) hW dX4_holds_101
            · skip
              refine lv_aload hx hb dX4_holds_65 (lv_at hl 0 rfl) ?_
              refine lv_iconst (v := 2) hx hb dX4_holds_67 (by decide) ?_
              refine lv_iload hx hb dX4_holds_68 (lv_at hl 5 rfl) ?_
              refine w_cV1 X hS (m_X0_hasValue l G ad nA nK I J i1 2 z hi1) rfl rfl g352 g5 g349 g350 g351 hd_X0_hasValue ⟨Nat.le_of_ble_eq_true rfl, Nat.le_of_ble_eq_true rfl⟩ (k_rec X hW 8 i1 hi1 rfl rfl) hW hl.1 rfl (Nat.le_of_ble_eq_true rfl) dX4_holds_70 (Nat.zero_le _) (Nat.zero_le _) (fun H locs hW hS => ?_)
              refine lb_if_eq (tgt := 80) hx hb dX4_holds_73 (by decide) (fun c_9 => ?_) (fun c_9 => ?_)
              · skip
                refine lv_iconst (v := 0) hx hb dX4_holds_80 (by decide) ?_
                refine lv_istore (lv' := [(6, .int 0), (5, .ref (ad 8 i1)), (0, .ref (ad 0 0)), (1, .int a), (2, .int x), (3, .int y), (4, .int z)]) hx hb dX4_holds_81 hl (by decide) rfl (fun ls hl => ?_)
                refine lv_iload hx hb dX4_holds_83 (lv_at hl 0 rfl) ?_
                refine lv_if_eq (tgt := 100) hx hb dX4_holds_85 (by decide) (fun _ => ?_) (fun c_10 => absurd (by decide) c_10)
                refine lv_iconst (v := 0) hx hb dX4_holds_100 (by decide) ?_
                exact w_iret X hr hlk hS (by first | rfl | (simp [cHolds, k_b, hq1, c_2, c_3, c_4, c_5, c_7, c_9]; done) | (simp [cHolds, k_b, hq1, c_2, c_3, c_4, c_5, c_7, c_9]; rfl)) hW dX4_holds_101
              · skip
                refine lv_iconst (v := 1) hx hb dX4_holds_76 (by decide) ?_
                refine lv_goto (tgt := 81) hx hb dX4_holds_77 (by decide) ?_
                refine lv_istore (lv' := [(6, .int 1), (5, .ref (ad 8 i1)), (0, .ref (ad 0 0)), (1, .int a), (2, .int x), (3, .int y), (4, .int z)]) hx hb dX4_holds_81 hl (by decide) rfl (fun ls hl => ?_)
                refine lv_iload hx hb dX4_holds_83 (lv_at hl 0 rfl) ?_
                refine lv_if_eq (tgt := 100) hx hb dX4_holds_85 (by decide) (fun c_11 => absurd c_11 (by decide)) (fun _ => ?_)
                refine lv_aload hx hb dX4_holds_88 (lv_at hl 1 rfl) ?_
                refine w_cV1 X hS (m_X0_isMoved l G ad nA nK I J i1 hi1) rfl rfl g274 g5 g295 g272 g273 hd_X0_isMoved ⟨Nat.le_of_ble_eq_true rfl, Nat.le_of_ble_eq_true rfl⟩ (k_rec X hW 8 i1 hi1 rfl rfl) hW hl.1 rfl (Nat.le_of_ble_eq_true rfl) dX4_holds_90 (Nat.zero_le _) (Nat.zero_le _) (fun H locs hW hS => ?_)
                refine lb_if_ne (tgt := 100) hx hb dX4_holds_93 (by decide) (fun c_12 => ?_) (fun c_12 => ?_)
                · skip
                  refine lv_iconst (v := 0) hx hb dX4_holds_100 (by decide) ?_
                  exact w_iret X hr hlk hS (by first | rfl | (simp [cHolds, k_b, hq1, c_2, c_3, c_4, c_5, c_7, c_9, c_12]; done) | (simp [cHolds, k_b, hq1, c_2, c_3, c_4, c_5, c_7, c_9, c_12]; rfl)) hW dX4_holds_101
                · skip
                  refine lv_iconst (v := 1) hx hb dX4_holds_96 (by decide) ?_
                  refine lv_goto (tgt := 101) hx hb dX4_holds_97 (by decide) ?_
                  exact w_iret X hr hlk hS (by first | rfl | (simp [cHolds, k_b, hq1, c_2, c_3, c_4, c_5, c_7, c_9, c_12]; done) | (simp [cHolds, k_b, hq1, c_2, c_3, c_4, c_5, c_7, c_9, c_12]; rfl)) hW dX4_holds_101
        · skip
          refine lv_sipush (v := (-1002)) hx hb dX4_holds_41 (by decide) ?_
          exact w_iret X hr hlk hS (by first | rfl | (simp [cHolds, k_b, hq1, c_2, c_3, c_4]; done) | (simp [cHolds, k_b, hq1, c_2, c_3, c_4]; rfl)) hW dX4_holds_44
set_option maxHeartbeats 4000000 in
set_option maxRecDepth 100000 in
theorem m_X4_count (l : Launch) (G : k_G) (ad : Nat → Nat → Nat) (nA nK : Nat) (I : k_I) (J : k_J) (w : Int32) (hs : k_S nA nK I) : k_Met l yX4_count cX4_count 2 (some FieldType.int) { frames := 6, cells := 0, slots := 0, locals := 142 } G [.ref (ad 0 0), .int w] (Wd G ad nA nK I J) (some (.int (cCount nA nK I J w))) (Wd G ad nA nK I J) 0 0 := by
  refine k_body (by decide) (Nat.le_of_ble_eq_true rfl) ?_
  intro p e s m below meth c ls X hr hlk hnm hW hS hl
  have hx := X.1.1
  have hb := X.1.2.1
  have hG := X.1.2.2.2.2
  have hA24 := hs.2.2.1
  have hK30 := hs.2.2.2.1
  have hl : lv_has ls 2 [(0, .ref (ad 0 0)), (1, .int w)] := hl
  refine lv_iload_n hx hb dX4_count_0 rfl (lv_at hl 1 rfl) ?_
  rcases k_sw0_8 w with c_1 | c_1 | c_1 | c_1 | c_1 | c_1 | c_1 | c_1 | c_1 | c_1
  · skip
    subst c_1
    refine lv_tableIn (tgt := 52) hx hb dX4_count_1 (by decide) (by decide) rfl (by decide) ?_
    refine lv_aload_n hx hb dX4_count_52 rfl (lv_at hl 0 rfl) ?_
    refine w_get (v := .int (nI nA)) X hW 0 0 Nat.zero_lt_one rfl rfl inG4 4 (by decide) g53 (congrArg (fun z => some (Value.int z)) hs.1) dX4_count_53 ?_
    exact w_iret X hr hlk hS (by first | rfl | (simp [cCount]; done) | (simp [cCount]; rfl)) hW dX4_count_56
  · skip
    subst c_1
    refine lv_tableIn (tgt := 57) hx hb dX4_count_1 (by decide) (by decide) rfl (by decide) ?_
    refine lv_aload_n hx hb dX4_count_57 rfl (lv_at hl 0 rfl) ?_
    refine lv_iload_n hx hb dX4_count_58 rfl (lv_at hl 1 rfl) ?_
    refine lv_iconst (v := 1) hx hb dX4_count_59 (by decide) ?_
    refine lv_isub hx hb dX4_count_60 ?_
    refine w_cV1 X hS (m_X4_kindCount l G ad nA nK I J (1 - 1) hs) rfl rfl g361 g1 g358 g360 p13 hd_X4_kindCount ⟨Nat.le_of_ble_eq_true rfl, Nat.le_of_ble_eq_true rfl⟩ (k_rec X hW 0 0 Nat.zero_lt_one rfl rfl) hW hl.1 rfl (Nat.le_of_ble_eq_true rfl) dX4_count_61 (Nat.zero_le _) (Nat.zero_le _) (fun H locs hW hS => ?_)
    exact w_iret X hr hlk hS (by first | rfl | (simp [cCount]; done) | (simp [cCount]; rfl)) hW dX4_count_64
  · skip
    subst c_1
    refine lv_tableIn (tgt := 57) hx hb dX4_count_1 (by decide) (by decide) rfl (by decide) ?_
    refine lv_aload_n hx hb dX4_count_57 rfl (lv_at hl 0 rfl) ?_
    refine lv_iload_n hx hb dX4_count_58 rfl (lv_at hl 1 rfl) ?_
    refine lv_iconst (v := 1) hx hb dX4_count_59 (by decide) ?_
    refine lv_isub hx hb dX4_count_60 ?_
    refine w_cV1 X hS (m_X4_kindCount l G ad nA nK I J (2 - 1) hs) rfl rfl g361 g1 g358 g360 p13 hd_X4_kindCount ⟨Nat.le_of_ble_eq_true rfl, Nat.le_of_ble_eq_true rfl⟩ (k_rec X hW 0 0 Nat.zero_lt_one rfl rfl) hW hl.1 rfl (Nat.le_of_ble_eq_true rfl) dX4_count_61 (Nat.zero_le _) (Nat.zero_le _) (fun H locs hW hS => ?_)
    exact w_iret X hr hlk hS (by first | rfl | (simp [cCount]; done) | (simp [cCount]; rfl)) hW dX4_count_64
  · skip
    subst c_1
    refine lv_tableIn (tgt := 57) hx hb dX4_count_1 (by decide) (by decide) rfl (by decide) ?_
    refine lv_aload_n hx hb dX4_count_57 rfl (lv_at hl 0 rfl) ?_
    refine lv_iload_n hx hb dX4_count_58 rfl (lv_at hl 1 rfl) ?_
    refine lv_iconst (v := 1) hx hb dX4_count_59 (by decide) ?_
    refine lv_isub hx hb dX4_count_60 ?_
    refine w_cV1 X hS (m_X4_kindCount l G ad nA nK I J (3 - 1) hs) rfl rfl g361 g1 g358 g360 p13 hd_X4_kindCount ⟨Nat.le_of_ble_eq_true rfl, Nat.le_of_ble_eq_true rfl⟩ (k_rec X hW 0 0 Nat.zero_lt_one rfl rfl) hW hl.1 rfl (Nat.le_of_ble_eq_true rfl) dX4_count_61 (Nat.zero_le _) (Nat.zero_le _) (fun H locs hW hS => ?_)
    exact w_iret X hr hlk hS (by first | rfl | (simp [cCount]; done) | (simp [cCount]; rfl)) hW dX4_count_64
  · skip
    subst c_1
    refine lv_tableIn (tgt := 65) hx hb dX4_count_1 (by decide) (by decide) rfl (by decide) ?_
    refine lv_aload_n hx hb dX4_count_65 rfl (lv_at hl 0 rfl) ?_
    refine w_cV1 X hS (m_X4_doubtedCount l G ad nA nK I J  hs) rfl rfl g365 g1 g362 g364 p14 hd_X4_doubtedCount ⟨Nat.le_of_ble_eq_true rfl, Nat.le_of_ble_eq_true rfl⟩ (k_rec X hW 0 0 Nat.zero_lt_one rfl rfl) hW hl.1 rfl (Nat.le_of_ble_eq_true rfl) dX4_count_66 (Nat.zero_le _) (Nat.zero_le _) (fun H locs hW hS => ?_)
    exact w_iret X hr hlk hS (by first | rfl | (simp [cCount]; done) | (simp [cCount]; rfl)) hW dX4_count_69
  · skip
    subst c_1
    refine lv_tableIn (tgt := 70) hx hb dX4_count_1 (by decide) (by decide) rfl (by decide) ?_
    refine lv_aload_n hx hb dX4_count_70 rfl (lv_at hl 0 rfl) ?_
    refine w_cV1 X hS (m_X4_quarrelCount l G ad nA nK I J  hs) rfl rfl g369 g1 g366 g368 p15 hd_X4_quarrelCount ⟨Nat.le_of_ble_eq_true rfl, Nat.le_of_ble_eq_true rfl⟩ (k_rec X hW 0 0 Nat.zero_lt_one rfl rfl) hW hl.1 rfl (Nat.le_of_ble_eq_true rfl) dX4_count_71 (Nat.zero_le _) (Nat.zero_le _) (fun H locs hW hS => ?_)
    exact w_iret X hr hlk hS (by first | rfl | (simp [cCount]; done) | (simp [cCount]; rfl)) hW dX4_count_74
  · skip
    subst c_1
    refine lv_tableIn (tgt := 75) hx hb dX4_count_1 (by decide) (by decide) rfl (by decide) ?_
    refine lv_aload_n hx hb dX4_count_75 rfl (lv_at hl 0 rfl) ?_
    refine w_get (v := .int (nI nK)) X hW 0 0 Nat.zero_lt_one rfl rfl inG4 5 (by decide) g54 (congrArg (fun z => some (Value.int z)) hs.2.1) dX4_count_76 ?_
    exact w_iret X hr hlk hS (by first | rfl | (simp [cCount]; done) | (simp [cCount]; rfl)) hW dX4_count_79
  · skip
    subst c_1
    refine lv_tableIn (tgt := 80) hx hb dX4_count_1 (by decide) (by decide) rfl (by decide) ?_
    refine lv_aload_n hx hb dX4_count_80 rfl (lv_at hl 0 rfl) ?_
    refine w_cV1 X hS (m_X4_asksInVain l G ad nA nK I J  hs) rfl rfl g386 g1 g383 g385 p17 hd_X4_asksInVain ⟨Nat.le_of_ble_eq_true rfl, Nat.le_of_ble_eq_true rfl⟩ (k_rec X hW 0 0 Nat.zero_lt_one rfl rfl) hW hl.1 rfl (Nat.le_of_ble_eq_true rfl) dX4_count_81 (Nat.zero_le _) (Nat.zero_le _) (fun H locs hW hS => ?_)
    refine w_cS1 X hS (m_J6_bitCount_0f7a4 l G (Wd G ad nA nK I J) (kVain nA nK I J) ) rfl rfl g259 g6 g257 g258 hd_J6_bitCount_0f7a4 ⟨Nat.le_of_ble_eq_true rfl, Nat.le_of_ble_eq_true rfl⟩ hW hl.1 rfl (Nat.le_of_ble_eq_true rfl) dX4_count_84 (Nat.zero_le _) (Nat.zero_le _) (fun H locs hW hS => ?_)
    exact w_iret X hr hlk hS (by first | rfl | (simp [cCount]; done) | (simp [cCount]; rfl)) hW dX4_count_87
  · skip
    subst c_1
    refine lv_tableIn (tgt := 88) hx hb dX4_count_1 (by decide) (by decide) rfl (by decide) ?_
    refine lv_aload_n hx hb dX4_count_88 rfl (lv_at hl 0 rfl) ?_
    refine lv_aload_n hx hb dX4_count_89 rfl (lv_at hl 0 rfl) ?_
    refine w_cV1 X hS (m_X4_asksInVain l G ad nA nK I J  hs) rfl rfl g386 g1 g383 g385 p17 hd_X4_asksInVain ⟨Nat.le_of_ble_eq_true rfl, Nat.le_of_ble_eq_true rfl⟩ (k_rec X hW 0 0 Nat.zero_lt_one rfl rfl) hW hl.1 rfl (Nat.le_of_ble_eq_true rfl) dX4_count_90 (Nat.zero_le _) (Nat.zero_le _) (fun H locs hW hS => ?_)
    refine w_cV1 X hS (m_X4_heapCount l G ad nA nK I J (kVain nA nK I J) hs) rfl rfl g416 g1 g413 g415 p20 hd_X4_heapCount ⟨Nat.le_of_ble_eq_true rfl, Nat.le_of_ble_eq_true rfl⟩ (k_rec X hW 0 0 Nat.zero_lt_one rfl rfl) hW hl.1 rfl (Nat.le_of_ble_eq_true rfl) dX4_count_93 (Nat.zero_le _) (Nat.zero_le _) (fun H locs hW hS => ?_)
    exact w_iret X hr hlk hS (by first | rfl | (simp [cCount]; done) | (simp [cCount]; rfl)) hW dX4_count_96
  · skip
    refine lv_tableOut (tgt := 97) hx hb dX4_count_1 c_1 (by decide) ?_
    have c_1_0 : ¬ w = 0 := fun h => by rw [h] at c_1; revert c_1; decide
    have c_1_1 : ¬ w = 1 := fun h => by rw [h] at c_1; revert c_1; decide
    have c_1_2 : ¬ w = 2 := fun h => by rw [h] at c_1; revert c_1; decide
    have c_1_3 : ¬ w = 3 := fun h => by rw [h] at c_1; revert c_1; decide
    have c_1_4 : ¬ w = 4 := fun h => by rw [h] at c_1; revert c_1; decide
    have c_1_5 : ¬ w = 5 := fun h => by rw [h] at c_1; revert c_1; decide
    have c_1_6 : ¬ w = 6 := fun h => by rw [h] at c_1; revert c_1; decide
    have c_1_7 : ¬ w = 7 := fun h => by rw [h] at c_1; revert c_1; decide
    have c_1_8 : ¬ w = 8 := fun h => by rw [h] at c_1; revert c_1; decide
    refine lv_sipush (v := (-1002)) hx hb dX4_count_97 (by decide) ?_
    exact w_iret X hr hlk hS (by first | rfl | (simp [cCount, c_1_0, c_1_1, c_1_2, c_1_3, c_1_4, c_1_5, c_1_6, c_1_7, c_1_8]; done) | (simp [cCount, c_1_0, c_1_1, c_1_2, c_1_3, c_1_4, c_1_5, c_1_6, c_1_7, c_1_8]; rfl)) hW dX4_count_100
set_option maxHeartbeats 4000000 in
set_option maxRecDepth 100000 in
theorem m_X4_quarrel (l : Launch) (G : k_G) (ad : Nat → Nat → Nat) (nA nK : Nat) (I : k_I) (J : k_J) (k : Int32) (w : Int32) (hs : k_S nA nK I) : k_Met l yX4_quarrel cX4_quarrel 6 (some FieldType.int) { frames := 3, cells := 0, slots := 0, locals := 67 } G [.ref (ad 0 0), .int k, .int w] (Wd G ad nA nK I J) (some (.int (cQuarrel nA I J k w))) (Wd G ad nA nK I J) 0 0 := by
  refine k_body (by decide) (Nat.le_of_ble_eq_true rfl) ?_
  intro p e s m below meth c ls X hr hlk hnm hW hS hl
  have hx := X.1.1
  have hb := X.1.2.1
  have hG := X.1.2.2.2.2
  have hA24 := hs.2.2.1
  have hK30 := hs.2.2.2.1
  have hl : lv_has ls 6 [(0, .ref (ad 0 0)), (1, .int k), (2, .int w)] := hl
  refine lv_iload_n hx hb dX4_quarrel_0 rfl (lv_at hl 2 rfl) ?_
  refine lv_iconst (v := 0) hx hb dX4_quarrel_1 (by decide) ?_
  refine lv_iconst (v := 4) hx hb dX4_quarrel_2 (by decide) ?_
  refine w_cS1 X hS (m_X4_within l G (Wd G ad nA nK I J) w 0 4 ) rfl rfl g83 g1 g81 g82 hd_X4_within ⟨Nat.le_of_ble_eq_true rfl, Nat.le_of_ble_eq_true rfl⟩ hW hl.1 rfl (Nat.le_of_ble_eq_true rfl) dX4_quarrel_3 (Nat.zero_le _) (Nat.zero_le _) (fun H locs hW hS => ?_)
  refine lb_if_ne (tgt := 13) hx hb dX4_quarrel_6 (by decide) (fun c_1 => ?_) (fun c_1 => ?_)
  · skip
    refine lv_iconst (v := 0) hx hb dX4_quarrel_13 (by decide) ?_
    refine lv_istore_n (lv' := [(3, .int 0), (0, .ref (ad 0 0)), (1, .int k), (2, .int w)]) hx hb dX4_quarrel_14 rfl hl (by decide) rfl (fun ls hl => ?_)
    refine lv_iconst (v := 0) hx hb dX4_quarrel_15 (by decide) ?_
    refine lv_istore (lv' := [(4, .int 0), (3, .int 0), (0, .ref (ad 0 0)), (1, .int k), (2, .int w)]) hx hb dX4_quarrel_16 hl (by decide) rfl (fun ls hl => ?_)
    have loop18 : ∀ (d a : Nat) (n : Int32), a + d = nA → (kQOut nA I J k w d a n = kQOut nA I J k w nA 0 0) → ∀ (H : Heap) (locs : List Loc), Wd G ad nA nK I J H → va_S (k_A G) s.heap H locs → ∀ ls : Array Slot, lv_has ls 6 [(4, .int (nI a)), (3, .int n), (0, .ref (ad 0 0)), (1, .int k), (2, .int w)] → W p l e { frames := 3, cells := 0, slots := 0, locals := 67 } s m ([.ref (ad 0 0), .int k, .int w] : List Value).toArray below meth c H locs 0 0 (MQ below (k_Q G (some (.int (cQuarrel nA I J k w))) (Wd G ad nA nK I J)) ([.ref (ad 0 0), .int k, .int w] : List Value).toArray s 0 0 (k_A G)) (F0 m 18 ls []) := by
      intro d
      induction d with
      | zero =>
        intro a n hi18 hz18  H locs hW hS ls hl
        refine lv_iload hx hb dX4_quarrel_18 (lv_at hl 0 rfl) ?_
        refine lv_aload_n hx hb dX4_quarrel_20 rfl (lv_at hl 2 rfl) ?_
        refine w_get (v := .int (nI nA)) X hW 0 0 Nat.zero_lt_one rfl rfl inG4 4 (by decide) g53 (congrArg (fun z => some (Value.int z)) hs.1) dX4_quarrel_21 ?_
        refine lv_icmp_ge (tgt := 91) hx hb dX4_quarrel_24 (by decide) (fun _ => ?_) (fun c_2 => absurd (nI_le (a := nA) (b := a) (by omega) (by omega)) c_2)
        refine lv_iconst (v := (-1)) hx hb dX4_quarrel_91 (by decide) ?_
        exact w_iret X hr hlk hS (by simp only [cQuarrel, c_1, if_true]; rw [← hz18]; rfl) hW dX4_quarrel_92
      | succ d ih =>
        intro a n hi18 hz18  H locs hW hS ls hl
        have hlt18 : a < nA := by omega
        have ih18 := ih
        refine lv_iload hx hb dX4_quarrel_18 (lv_at hl 0 rfl) ?_
        refine lv_aload_n hx hb dX4_quarrel_20 rfl (lv_at hl 2 rfl) ?_
        refine w_get (v := .int (nI nA)) X hW 0 0 Nat.zero_lt_one rfl rfl inG4 4 (by decide) g53 (congrArg (fun z => some (Value.int z)) hs.1) dX4_quarrel_21 ?_
        refine lv_icmp_ge (tgt := 91) hx hb dX4_quarrel_24 (by decide) (fun c_3 => absurd c_3 (nI_ge (a := a) (b := nA) (by omega) (by omega))) (fun _ => ?_)
        refine lv_iload hx hb dX4_quarrel_27 (lv_at hl 0 rfl) ?_
        refine lv_iconst (v := 1) hx hb dX4_quarrel_29 (by decide) ?_
        refine lw_iaddN (a := a) (b := 1) hx hb dX4_quarrel_30 ?_
        refine lv_istore (lv' := [(5, .int (nI (a + 1))), (4, .int (nI a)), (3, .int n), (0, .ref (ad 0 0)), (1, .int k), (2, .int w)]) hx hb dX4_quarrel_31 hl (by decide) rfl (fun ls hl => ?_)
        have loop33 : ∀ (d2 b : Nat) (n2 : Int32), b + d2 = nA → (kQIn I J k w a d2 b n2 = kQIn I J k w a (nA - (a + 1)) (a + 1) n) → ∀ (H : Heap) (locs : List Loc), Wd G ad nA nK I J H → va_S (k_A G) s.heap H locs → ∀ ls : Array Slot, lv_has ls 6 [(5, .int (nI b)), (3, .int n2), (4, .int (nI a)), (0, .ref (ad 0 0)), (1, .int k), (2, .int w)] → W p l e { frames := 3, cells := 0, slots := 0, locals := 67 } s m ([.ref (ad 0 0), .int k, .int w] : List Value).toArray below meth c H locs 0 0 (MQ below (k_Q G (some (.int (cQuarrel nA I J k w))) (Wd G ad nA nK I J)) ([.ref (ad 0 0), .int k, .int w] : List Value).toArray s 0 0 (k_A G)) (F0 m 33 ls []) := by
          intro d2
          induction d2 with
          | zero =>
            intro b n2 hi33 hz33  H locs hW hS ls hl
            have hz33 : Sum.inr n2 = kQIn I J k w a (nA - (a + 1)) (a + 1) n := hz33
            refine lv_iload hx hb dX4_quarrel_33 (lv_at hl 0 rfl) ?_
            refine lv_aload_n hx hb dX4_quarrel_35 rfl (lv_at hl 3 rfl) ?_
            refine w_get (v := .int (nI nA)) X hW 0 0 Nat.zero_lt_one rfl rfl inG4 4 (by decide) g53 (congrArg (fun z => some (Value.int z)) hs.1) dX4_quarrel_36 ?_
            refine lv_icmp_ge (tgt := 85) hx hb dX4_quarrel_39 (by decide) (fun _ => ?_) (fun c_4 => absurd (nI_le (a := nA) (b := b) (by omega) (by omega)) c_4)
            refine lv_iinc (v := nI (a + 1)) (lv' := [(4, .int (nI (a + 1))), (5, .int (nI b)), (3, .int n2), (0, .ref (ad 0 0)), (1, .int k), (2, .int w)]) hx hb dX4_quarrel_85 hl (k := 2) rfl (nI_1 a) (by decide) rfl (fun ls hl => ?_)
            refine lv_goto (tgt := 18) hx hb dX4_quarrel_88 (by decide) ?_
            exact ih18 (a + 1) n2 (by omega) (by rw [← hz18]; simp only [kQOut]; rw [← hz33]) _ _ hW hS ls (lv_sub hl [0, 2, 3, 4, 5] rfl)
          | succ d2 ih =>
            intro b n2 hi33 hz33  H locs hW hS ls hl
            have hlt33 : b < nA := by omega
            have ih33 := ih
            refine lv_iload hx hb dX4_quarrel_33 (lv_at hl 0 rfl) ?_
            refine lv_aload_n hx hb dX4_quarrel_35 rfl (lv_at hl 3 rfl) ?_
            refine w_get (v := .int (nI nA)) X hW 0 0 Nat.zero_lt_one rfl rfl inG4 4 (by decide) g53 (congrArg (fun z => some (Value.int z)) hs.1) dX4_quarrel_36 ?_
            refine lv_icmp_ge (tgt := 85) hx hb dX4_quarrel_39 (by decide) (fun c_5 => absurd c_5 (nI_ge (a := b) (b := nA) (by omega) (by omega))) (fun _ => ?_)
            refine lv_aload_n hx hb dX4_quarrel_42 rfl (lv_at hl 3 rfl) ?_
            refine lv_aload_n hx hb dX4_quarrel_43 rfl (lv_at hl 3 rfl) ?_
            refine lv_iload hx hb dX4_quarrel_44 (lv_at hl 2 rfl) ?_
            refine w_cV1 X hS (m_X4_answerAt l G ad nA nK I J (nI a) hs) rfl rfl g99 g1 g96 g98 p1 hd_X4_answerAt ⟨Nat.le_of_ble_eq_true rfl, Nat.le_of_ble_eq_true rfl⟩ (k_rec X hW 0 0 Nat.zero_lt_one rfl rfl) hW hl.1 rfl (Nat.le_of_ble_eq_true rfl) dX4_quarrel_46 (Nat.zero_le _) (Nat.zero_le _) (fun H locs hW hS => ?_)
            rw [kAns_lt (n := nA) (a := a) (by omega) (by omega)]
            refine lv_aload_n hx hb dX4_quarrel_49 rfl (lv_at hl 3 rfl) ?_
            refine lv_iload hx hb dX4_quarrel_50 (lv_at hl 0 rfl) ?_
            refine w_cV1 X hS (m_X4_answerAt l G ad nA nK I J (nI b) hs) rfl rfl g99 g1 g96 g98 p1 hd_X4_answerAt ⟨Nat.le_of_ble_eq_true rfl, Nat.le_of_ble_eq_true rfl⟩ (k_rec X hW 0 0 Nat.zero_lt_one rfl rfl) hW hl.1 rfl (Nat.le_of_ble_eq_true rfl) dX4_quarrel_52 (Nat.zero_le _) (Nat.zero_le _) (fun H locs hW hS => ?_)
            rw [kAns_lt (n := nA) (a := b) (by omega) (by omega)]
            refine w_cV1 X hS (m_X4_areQuarrelling l G ad nA nK I J a b (show a < nA by omega) (show b < nA by omega)) rfl rfl g373 g1 g370 g372 p16 hd_X4_areQuarrelling ⟨Nat.le_of_ble_eq_true rfl, Nat.le_of_ble_eq_true rfl⟩ (k_rec X hW 0 0 Nat.zero_lt_one rfl rfl) hW hl.1 rfl (Nat.le_of_ble_eq_true rfl) dX4_quarrel_55 (Nat.zero_le _) (Nat.zero_le _) (fun H locs hW hS => ?_)
            refine lb_if_eq (tgt := 79) hx hb dX4_quarrel_58 (by decide) (fun c_6 => ?_) (fun c_6 => ?_)
            · skip
              refine lv_iinc (v := nI (b + 1)) (lv' := [(5, .int (nI (b + 1))), (3, .int n2), (4, .int (nI a)), (0, .ref (ad 0 0)), (1, .int k), (2, .int w)]) hx hb dX4_quarrel_79 hl (k := 0) rfl (nI_1 b) (by decide) rfl (fun ls hl => ?_)
              refine lv_goto (tgt := 33) hx hb dX4_quarrel_82 (by decide) ?_
              exact ih33 (b + 1) n2 (by omega) (by first | exact hz33 | (rw [← hz33]; simp [kQIn, c_1, c_6]; done) | (simp [← hz33, kQIn, c_1, c_6]; done) | (rw [← hz33]; simp only [kQIn, c_1, c_6, eq_self, if_true, if_false, Bool.false_eq_true, decide_true, decide_false, Bool.not_true, Bool.not_false, Bool.false_or, Bool.true_or, Bool.and_true, Bool.true_and, Bool.false_and, Bool.and_false, Bool.or_true, Bool.or_false]; done)) _ _ hW hS ls (lv_sub hl [0, 1, 2, 3, 4, 5] rfl)
            · skip
              refine lv_iload_n hx hb dX4_quarrel_61 rfl (lv_at hl 1 rfl) ?_
              refine lv_iload_n hx hb dX4_quarrel_62 rfl (lv_at hl 4 rfl) ?_
              refine lv_icmp_ne (tgt := 76) hx hb dX4_quarrel_63 (by decide) (fun c_7 => ?_) (fun c_7 => ?_)
              · skip
                refine lv_iinc (v := n2 + 1) (lv' := [(3, .int (n2 + 1)), (5, .int (nI b)), (4, .int (nI a)), (0, .ref (ad 0 0)), (1, .int k), (2, .int w)]) hx hb dX4_quarrel_76 hl (k := 1) rfl rfl (by decide) rfl (fun ls hl => ?_)
                refine lv_iinc (v := nI (b + 1)) (lv' := [(5, .int (nI (b + 1))), (3, .int (n2 + 1)), (4, .int (nI a)), (0, .ref (ad 0 0)), (1, .int k), (2, .int w)]) hx hb dX4_quarrel_79 hl (k := 1) rfl (nI_1 b) (by decide) rfl (fun ls hl => ?_)
                refine lv_goto (tgt := 33) hx hb dX4_quarrel_82 (by decide) ?_
                exact ih33 (b + 1) (n2 + 1) (by omega) (by first | exact hz33 | (rw [← hz33]; simp [kQIn, c_1, c_6, c_7]; done) | (simp [← hz33, kQIn, c_1, c_6, c_7]; done) | (rw [← hz33]; simp only [kQIn, c_1, c_6, c_7, eq_self, if_true, if_false, Bool.false_eq_true, decide_true, decide_false, Bool.not_true, Bool.not_false, Bool.false_or, Bool.true_or, Bool.and_true, Bool.true_and, Bool.false_and, Bool.and_false, Bool.or_true, Bool.or_false]; done)) _ _ hW hS ls (lv_sub hl [0, 1, 2, 3, 4, 5] rfl)
              · skip
                refine lv_aload_n hx hb dX4_quarrel_66 rfl (lv_at hl 3 rfl) ?_
                refine lv_iload hx hb dX4_quarrel_67 (lv_at hl 2 rfl) ?_
                refine lv_iload hx hb dX4_quarrel_69 (lv_at hl 0 rfl) ?_
                refine lv_iload_n hx hb dX4_quarrel_71 rfl (lv_at hl 5 rfl) ?_
                refine w_cV1 X hS (m_X4_quarrelPart l G ad nA nK I J a b w hs (by first | assumption | omega) (by first | assumption | omega)) rfl rfl g432 g1 g429 g431 p23 hd_X4_quarrelPart ⟨Nat.le_of_ble_eq_true rfl, Nat.le_of_ble_eq_true rfl⟩ (k_rec X hW 0 0 Nat.zero_lt_one rfl rfl) hW hl.1 rfl (Nat.le_of_ble_eq_true rfl) dX4_quarrel_72 (Nat.zero_le _) (Nat.zero_le _) (fun H locs hW hS => ?_)
                exact w_iret X hr hlk hS (by simp only [cQuarrel, c_1, if_true]; rw [← hz18]; simp only [kQOut]; rw [← hz33]; simp [kQIn, c_6, c_7]) hW dX4_quarrel_75
        exact loop33 (nA - (a + 1)) (a + 1) n (by omega) rfl _ _ hW hS ls (lv_sub hl [0, 2, 1, 3, 4, 5] rfl)
    exact loop18 nA 0 0 (by omega) rfl _ _ hW hS ls (lv_sub hl [0, 1, 2, 3, 4] rfl)
  · skip
    refine lv_sipush (v := (-1002)) hx hb dX4_quarrel_9 (by decide) ?_
    exact w_iret X hr hlk hS (by first | rfl | (simp [cQuarrel, c_1]; done) | (simp [cQuarrel, c_1]; rfl)) hW dX4_quarrel_12
set_option maxHeartbeats 4000000 in
set_option maxRecDepth 100000 in
theorem m_X4_found (l : Launch) (G : k_G) (ad : Nat → Nat → Nat) (nA nK : Nat) (I : k_I) (J : k_J) (k : Int32) (i : Int32) (w : Int32) (hs : k_S nA nK I) : k_Met l yX4_found cX4_found 6 (some FieldType.int) { frames := 6, cells := 0, slots := 0, locals := 146 } G [.ref (ad 0 0), .int k, .int i, .int w] (Wd G ad nA nK I J) (some (.int (cFound nA nK I J k i w))) (Wd G ad nA nK I J) 0 0 := by
  refine k_body (by decide) (Nat.le_of_ble_eq_true rfl) ?_
  intro p e s m below meth c ls X hr hlk hnm hW hS hl
  have hx := X.1.1
  have hb := X.1.2.1
  have hG := X.1.2.2.2.2
  have hA24 := hs.2.2.1
  have hK30 := hs.2.2.2.1
  have hl : lv_has ls 6 [(0, .ref (ad 0 0)), (1, .int k), (2, .int i), (3, .int w)] := hl
  refine lv_aload_n hx hb dX4_found_0 rfl (lv_at hl 0 rfl) ?_
  refine lv_iload_n hx hb dX4_found_1 rfl (lv_at hl 1 rfl) ?_
  refine w_cV1 X hS (m_X4_askAt l G ad nA nK I J k hs) rfl rfl g156 g1 g153 g155 p7 hd_X4_askAt ⟨Nat.le_of_ble_eq_true rfl, Nat.le_of_ble_eq_true rfl⟩ (k_rec X hW 0 0 Nat.zero_lt_one rfl rfl) hW hl.1 rfl (Nat.le_of_ble_eq_true rfl) dX4_found_2 (Nat.zero_le _) (Nat.zero_le _) (fun H locs hW hS => ?_)
  rcases hq1 : kAns nK k with _ | i1
  · skip
    refine lv_astoreN (lv' := [(4, .null), (0, .ref (ad 0 0)), (1, .int k), (2, .int i), (3, .int w)]) hx hb dX4_found_5 hl (by decide) rfl (fun ls hl => ?_)
    refine lv_aloadN hx hb dX4_found_7 (lv_at hl 0 rfl) ?_
    refine lv_ifnonnullN hx hb dX4_found_9 ?_
    refine lv_sipush (v := (-1001)) hx hb dX4_found_12 (by decide) ?_
    exact w_iret X hr hlk hS (by first | rfl | (simp [cFound, hq1]; done) | (simp [cFound, hq1]; rfl)) hW dX4_found_15
  · skip
    have hi1 := kAns_b hq1
    refine lv_astore (lv' := [(4, .ref (ad 11 i1)), (0, .ref (ad 0 0)), (1, .int k), (2, .int i), (3, .int w)]) hx hb dX4_found_5 hl (by decide) rfl (fun ls hl => ?_)
    refine lv_aload hx hb dX4_found_7 (lv_at hl 0 rfl) ?_
    refine lv_ifnonnull (tgt := 16) hx hb dX4_found_9 (by decide) ?_
    refine lv_iload_n hx hb dX4_found_16 rfl (lv_at hl 4 rfl) ?_
    refine lv_iconst (v := 0) hx hb dX4_found_17 (by decide) ?_
    refine lv_iconst (v := 2) hx hb dX4_found_18 (by decide) ?_
    refine w_cS1 X hS (m_X4_within l G (Wd G ad nA nK I J) w 0 2 ) rfl rfl g83 g1 g81 g82 hd_X4_within ⟨Nat.le_of_ble_eq_true rfl, Nat.le_of_ble_eq_true rfl⟩ hW hl.1 rfl (Nat.le_of_ble_eq_true rfl) dX4_found_19 (Nat.zero_le _) (Nat.zero_le _) (fun H locs hW hS => ?_)
    refine lb_if_ne (tgt := 29) hx hb dX4_found_22 (by decide) (fun c_2 => ?_) (fun c_2 => ?_)
    · skip
      refine lv_aload_n hx hb dX4_found_29 rfl (lv_at hl 1 rfl) ?_
      refine lv_aload hx hb dX4_found_30 (lv_at hl 0 rfl) ?_
      refine lv_iload_n hx hb dX4_found_32 rfl (lv_at hl 3 rfl) ?_
      refine w_cV1 X hS (m_X4_foundAt l G ad nA nK I J i1 i hi1 hs) rfl rfl g467 g1 g464 g466 p24 hd_X4_foundAt ⟨Nat.le_of_ble_eq_true rfl, Nat.le_of_ble_eq_true rfl⟩ (k_rec X hW 0 0 Nat.zero_lt_one rfl rfl) hW hl.1 rfl (Nat.le_of_ble_eq_true rfl) dX4_found_33 (Nat.zero_le _) (Nat.zero_le _) (fun H locs hW hS => ?_)
      rcases hq3 : kFoundAt nA I J i1 i with _ | i3
      · skip
        refine lv_astoreN (lv' := [(5, .null), (4, .ref (ad 11 i1)), (0, .ref (ad 0 0)), (1, .int k), (2, .int i), (3, .int w)]) hx hb dX4_found_36 hl (by decide) rfl (fun ls hl => ?_)
        refine lv_aloadN hx hb dX4_found_38 (lv_at hl 0 rfl) ?_
        refine lv_ifnonnullN hx hb dX4_found_40 ?_
        refine lv_iconst (v := (-1)) hx hb dX4_found_43 (by decide) ?_
        exact w_iret X hr hlk hS (by first | rfl | (simp [cFound, hq1, c_2, hq3]; done) | (simp [cFound, hq1, c_2, hq3]; rfl)) hW dX4_found_44
      · skip
        have hi3 := kFoundAt_b hq3
        refine lv_astore (lv' := [(5, .ref (ad 8 i3)), (4, .ref (ad 11 i1)), (0, .ref (ad 0 0)), (1, .int k), (2, .int i), (3, .int w)]) hx hb dX4_found_36 hl (by decide) rfl (fun ls hl => ?_)
        refine lv_aload hx hb dX4_found_38 (lv_at hl 0 rfl) ?_
        refine lv_ifnonnull (tgt := 45) hx hb dX4_found_40 (by decide) ?_
        refine lv_iload_n hx hb dX4_found_45 rfl (lv_at hl 5 rfl) ?_
        refine lv_if_ne (tgt := 57) hx hb dX4_found_46 (by decide) (fun c_4 => ?_) (fun c_4 => ?_)
        · skip
          refine lv_iload_n hx hb dX4_found_57 rfl (lv_at hl 5 rfl) ?_
          refine lv_iconst (v := 1) hx hb dX4_found_58 (by decide) ?_
          refine lv_icmp_ne (tgt := 77) hx hb dX4_found_59 (by decide) (fun c_5 => ?_) (fun c_5 => ?_)
          · skip
            refine lv_aload hx hb dX4_found_77 (lv_at hl 1 rfl) ?_
            refine lv_aload hx hb dX4_found_79 (lv_at hl 0 rfl) ?_
            refine w_cS1 X hS (m_X4_questionOf l G ad nA nK I J i1 i3 hi1 hi3) rfl rfl g408 g1 g406 g407 hd_X4_questionOf ⟨Nat.le_of_ble_eq_true rfl, Nat.le_of_ble_eq_true rfl⟩ hW hl.1 rfl (Nat.le_of_ble_eq_true rfl) dX4_found_81 (Nat.zero_le _) (Nat.zero_le _) (fun H locs hW hS => ?_)
            exact w_iret X hr hlk hS (by first | rfl | (simp [cFound, hq1, c_2, hq3, c_4, c_5]; done) | (simp [cFound, hq1, c_2, hq3, c_4, c_5]; rfl)) hW dX4_found_84
          · skip
            refine lv_aload hx hb dX4_found_62 (lv_at hl 1 rfl) ?_
            refine w_get X hW 11 i1 hi1 rfl rfl inG1 2 (by decide) g452 rfl dX4_found_64 ?_
            refine lv_aload hx hb dX4_found_67 (lv_at hl 1 rfl) ?_
            refine lv_aload hx hb dX4_found_69 (lv_at hl 0 rfl) ?_
            refine w_cS1 X hS (m_X4_costOf l G ad nA nK I J (J 11 i1 2) i1 i3 hi1 hi3) rfl rfl g404 g1 g402 g403 hd_X4_costOf ⟨Nat.le_of_ble_eq_true rfl, Nat.le_of_ble_eq_true rfl⟩ hW hl.1 rfl (Nat.le_of_ble_eq_true rfl) dX4_found_71 (Nat.zero_le _) (Nat.zero_le _) (fun H locs hW hS => ?_)
            refine lv_goto (tgt := 84) hx hb dX4_found_74 (by decide) ?_
            exact w_iret X hr hlk hS (by first | rfl | (simp [cFound, hq1, c_2, hq3, c_4, c_5]; done) | (subst c_5; simp [cFound, hq1, c_2, hq3, c_4]; done) | (simp [cFound, hq1, c_2, hq3, c_4, c_5]; rfl)) hW dX4_found_84
        · skip
          refine lv_aload hx hb dX4_found_49 (lv_at hl 0 rfl) ?_
          refine w_get X hW 8 i3 hi3 rfl rfl inG0 0 (by decide) g187 rfl dX4_found_51 ?_
          refine lv_goto (tgt := 84) hx hb dX4_found_54 (by decide) ?_
          exact w_iret X hr hlk hS (by first | rfl | (simp [cFound, hq1, c_2, hq3, c_4]; done) | (subst c_4; simp [cFound, hq1, c_2, hq3]; done) | (simp [cFound, hq1, c_2, hq3, c_4]; rfl)) hW dX4_found_84
    · skip
      refine lv_sipush (v := (-1002)) hx hb dX4_found_25 (by decide) ?_
      exact w_iret X hr hlk hS (by first | rfl | (simp [cFound, hq1, c_2]; done) | (simp [cFound, hq1, c_2]; rfl)) hW dX4_found_28
set_option maxHeartbeats 4000000 in
set_option maxRecDepth 100000 in
theorem m_X4_cost (l : Launch) (G : k_G) (ad : Nat → Nat → Nat) (nA nK : Nat) (I : k_I) (J : k_J) (k : Int32) (a : Int32) (hs : k_S nA nK I) : k_Met l yX4_cost cX4_cost 5 (some FieldType.int) { frames := 3, cells := 0, slots := 0, locals := 71 } G [.ref (ad 0 0), .int k, .int a] (Wd G ad nA nK I J) (some (.int (cCost nA nK I J k a))) (Wd G ad nA nK I J) 0 0 := by
  refine k_body (by decide) (Nat.le_of_ble_eq_true rfl) ?_
  intro p e s m below meth c ls X hr hlk hnm hW hS hl
  have hx := X.1.1
  have hb := X.1.2.1
  have hG := X.1.2.2.2.2
  have hA24 := hs.2.2.1
  have hK30 := hs.2.2.2.1
  have hl : lv_has ls 5 [(0, .ref (ad 0 0)), (1, .int k), (2, .int a)] := hl
  refine lv_aload_n hx hb dX4_cost_0 rfl (lv_at hl 0 rfl) ?_
  refine lv_iload_n hx hb dX4_cost_1 rfl (lv_at hl 1 rfl) ?_
  refine w_cV1 X hS (m_X4_askAt l G ad nA nK I J k hs) rfl rfl g156 g1 g153 g155 p7 hd_X4_askAt ⟨Nat.le_of_ble_eq_true rfl, Nat.le_of_ble_eq_true rfl⟩ (k_rec X hW 0 0 Nat.zero_lt_one rfl rfl) hW hl.1 rfl (Nat.le_of_ble_eq_true rfl) dX4_cost_2 (Nat.zero_le _) (Nat.zero_le _) (fun H locs hW hS => ?_)
  rcases hq1 : kAns nK k with _ | i1
  · skip
    refine lv_astore_nN (lv' := [(3, .null), (0, .ref (ad 0 0)), (1, .int k), (2, .int a)]) hx hb dX4_cost_5 rfl hl (by decide) rfl (fun ls hl => ?_)
    refine lv_aload_n hx hb dX4_cost_6 rfl (lv_at hl 1 rfl) ?_
    refine lv_iload_n hx hb dX4_cost_7 rfl (lv_at hl 3 rfl) ?_
    refine w_cV1 X hS (m_X4_answerAt l G ad nA nK I J a hs) rfl rfl g99 g1 g96 g98 p1 hd_X4_answerAt ⟨Nat.le_of_ble_eq_true rfl, Nat.le_of_ble_eq_true rfl⟩ (k_rec X hW 0 0 Nat.zero_lt_one rfl rfl) hW hl.1 rfl (Nat.le_of_ble_eq_true rfl) dX4_cost_8 (Nat.zero_le _) (Nat.zero_le _) (fun H locs hW hS => ?_)
    rcases hq2 : kAns nA a with _ | i2
    · skip
      refine lv_astoreN (lv' := [(4, .null), (3, .null), (0, .ref (ad 0 0)), (1, .int k), (2, .int a)]) hx hb dX4_cost_11 hl (by decide) rfl (fun ls hl => ?_)
      refine lv_aload_nN hx hb dX4_cost_13 rfl (lv_at hl 1 rfl) ?_
      refine lv_ifnullN (tgt := 22) hx hb dX4_cost_14 (by decide) ?_
      refine lv_sipush (v := (-1001)) hx hb dX4_cost_22 (by decide) ?_
      exact w_iret X hr hlk hS (by first | rfl | (simp [cCost, hq1, hq2]; done) | (simp [cCost, hq1, hq2]; rfl)) hW dX4_cost_25
    · skip
      have hi2 := kAns_b hq2
      refine lv_astore (lv' := [(4, .ref (ad 8 i2)), (3, .null), (0, .ref (ad 0 0)), (1, .int k), (2, .int a)]) hx hb dX4_cost_11 hl (by decide) rfl (fun ls hl => ?_)
      refine lv_aload_nN hx hb dX4_cost_13 rfl (lv_at hl 1 rfl) ?_
      refine lv_ifnullN (tgt := 22) hx hb dX4_cost_14 (by decide) ?_
      refine lv_sipush (v := (-1001)) hx hb dX4_cost_22 (by decide) ?_
      exact w_iret X hr hlk hS (by first | rfl | (simp [cCost, hq1, hq2]; done) | (simp [cCost, hq1, hq2]; rfl)) hW dX4_cost_25
  · skip
    have hi1 := kAns_b hq1
    refine lv_astore_n (lv' := [(3, .ref (ad 11 i1)), (0, .ref (ad 0 0)), (1, .int k), (2, .int a)]) hx hb dX4_cost_5 rfl hl (by decide) rfl (fun ls hl => ?_)
    refine lv_aload_n hx hb dX4_cost_6 rfl (lv_at hl 1 rfl) ?_
    refine lv_iload_n hx hb dX4_cost_7 rfl (lv_at hl 3 rfl) ?_
    refine w_cV1 X hS (m_X4_answerAt l G ad nA nK I J a hs) rfl rfl g99 g1 g96 g98 p1 hd_X4_answerAt ⟨Nat.le_of_ble_eq_true rfl, Nat.le_of_ble_eq_true rfl⟩ (k_rec X hW 0 0 Nat.zero_lt_one rfl rfl) hW hl.1 rfl (Nat.le_of_ble_eq_true rfl) dX4_cost_8 (Nat.zero_le _) (Nat.zero_le _) (fun H locs hW hS => ?_)
    rcases hq3 : kAns nA a with _ | i3
    · skip
      refine lv_astoreN (lv' := [(4, .null), (3, .ref (ad 11 i1)), (0, .ref (ad 0 0)), (1, .int k), (2, .int a)]) hx hb dX4_cost_11 hl (by decide) rfl (fun ls hl => ?_)
      refine lv_aload_n hx hb dX4_cost_13 rfl (lv_at hl 1 rfl) ?_
      refine lv_ifnull hx hb dX4_cost_14 ?_
      refine lv_aloadN hx hb dX4_cost_17 (lv_at hl 0 rfl) ?_
      refine lv_ifnonnullN hx hb dX4_cost_19 ?_
      refine lv_sipush (v := (-1001)) hx hb dX4_cost_22 (by decide) ?_
      exact w_iret X hr hlk hS (by first | rfl | (simp [cCost, hq1, hq3]; done) | (simp [cCost, hq1, hq3]; rfl)) hW dX4_cost_25
    · skip
      have hi3 := kAns_b hq3
      refine lv_astore (lv' := [(4, .ref (ad 8 i3)), (3, .ref (ad 11 i1)), (0, .ref (ad 0 0)), (1, .int k), (2, .int a)]) hx hb dX4_cost_11 hl (by decide) rfl (fun ls hl => ?_)
      refine lv_aload_n hx hb dX4_cost_13 rfl (lv_at hl 1 rfl) ?_
      refine lv_ifnull hx hb dX4_cost_14 ?_
      refine lv_aload hx hb dX4_cost_17 (lv_at hl 0 rfl) ?_
      refine lv_ifnonnull (tgt := 26) hx hb dX4_cost_19 (by decide) ?_
      refine lv_aload_n hx hb dX4_cost_26 rfl (lv_at hl 1 rfl) ?_
      refine lv_aload hx hb dX4_cost_27 (lv_at hl 0 rfl) ?_
      refine w_cS1 X hS (m_X4_isFit l G ad nA nK I J i1 i3 hi1 hi3) rfl rfl g397 g1 g395 g396 hd_X4_isFit ⟨Nat.le_of_ble_eq_true rfl, Nat.le_of_ble_eq_true rfl⟩ hW hl.1 rfl (Nat.le_of_ble_eq_true rfl) dX4_cost_29 (Nat.zero_le _) (Nat.zero_le _) (fun H locs hW hS => ?_)
      refine lb_if_eq (tgt := 48) hx hb dX4_cost_32 (by decide) (fun c_4 => ?_) (fun c_4 => ?_)
      · skip
        refine lv_sipush (v := (-1003)) hx hb dX4_cost_48 (by decide) ?_
        exact w_iret X hr hlk hS (by first | rfl | (simp [cCost, hq1, hq3, c_4]; done) | (simp [cCost, hq1, hq3, c_4]; rfl)) hW dX4_cost_51
      · skip
        refine lv_aload_n hx hb dX4_cost_35 rfl (lv_at hl 1 rfl) ?_
        refine w_get X hW 11 i1 hi1 rfl rfl inG1 2 (by decide) g452 rfl dX4_cost_36 ?_
        refine lv_aload_n hx hb dX4_cost_39 rfl (lv_at hl 1 rfl) ?_
        refine lv_aload hx hb dX4_cost_40 (lv_at hl 0 rfl) ?_
        refine w_cS1 X hS (m_X4_costOf l G ad nA nK I J (J 11 i1 2) i1 i3 hi1 hi3) rfl rfl g404 g1 g402 g403 hd_X4_costOf ⟨Nat.le_of_ble_eq_true rfl, Nat.le_of_ble_eq_true rfl⟩ hW hl.1 rfl (Nat.le_of_ble_eq_true rfl) dX4_cost_42 (Nat.zero_le _) (Nat.zero_le _) (fun H locs hW hS => ?_)
        refine lv_goto (tgt := 51) hx hb dX4_cost_45 (by decide) ?_
        exact w_iret X hr hlk hS (by first | rfl | (simp [cCost, hq1, hq3, c_4]; done) | (simp [cCost, hq1, hq3, c_4]; rfl)) hW dX4_cost_51
set_option maxHeartbeats 4000000 in
set_option maxRecDepth 100000 in
theorem m_X4_asked (l : Launch) (G : k_G) (ad : Nat → Nat → Nat) (nA nK : Nat) (I : k_I) (J : k_J) (k : Int32) (w : Int32) (hs : k_S nA nK I) : k_Met l yX4_asked cX4_asked 4 (some FieldType.int) { frames := 6, cells := 0, slots := 0, locals := 142 } G [.ref (ad 0 0), .int k, .int w] (Wd G ad nA nK I J) (some (.int (cAsked nA nK I J k w))) (Wd G ad nA nK I J) 0 0 := by
  refine k_body (by decide) (Nat.le_of_ble_eq_true rfl) ?_
  intro p e s m below meth c ls X hr hlk hnm hW hS hl
  have hx := X.1.1
  have hb := X.1.2.1
  have hG := X.1.2.2.2.2
  have hA24 := hs.2.2.1
  have hK30 := hs.2.2.2.1
  have hl : lv_has ls 4 [(0, .ref (ad 0 0)), (1, .int k), (2, .int w)] := hl
  refine lv_aload_n hx hb dX4_asked_0 rfl (lv_at hl 0 rfl) ?_
  refine lv_iload_n hx hb dX4_asked_1 rfl (lv_at hl 1 rfl) ?_
  refine w_cV1 X hS (m_X4_askAt l G ad nA nK I J k hs) rfl rfl g156 g1 g153 g155 p7 hd_X4_askAt ⟨Nat.le_of_ble_eq_true rfl, Nat.le_of_ble_eq_true rfl⟩ (k_rec X hW 0 0 Nat.zero_lt_one rfl rfl) hW hl.1 rfl (Nat.le_of_ble_eq_true rfl) dX4_asked_2 (Nat.zero_le _) (Nat.zero_le _) (fun H locs hW hS => ?_)
  rcases hq1 : kAns nK k with _ | i1
  · skip
    refine lv_astore_nN (lv' := [(3, .null), (0, .ref (ad 0 0)), (1, .int k), (2, .int w)]) hx hb dX4_asked_5 rfl hl (by decide) rfl (fun ls hl => ?_)
    refine lv_aload_nN hx hb dX4_asked_6 rfl (lv_at hl 0 rfl) ?_
    refine lv_ifnonnullN hx hb dX4_asked_7 ?_
    refine lv_sipush (v := (-1001)) hx hb dX4_asked_10 (by decide) ?_
    exact w_iret X hr hlk hS (by first | rfl | (simp [cAsked, hq1]; done) | (simp [cAsked, hq1]; rfl)) hW dX4_asked_13
  · skip
    have hi1 := kAns_b hq1
    refine lv_astore_n (lv' := [(3, .ref (ad 11 i1)), (0, .ref (ad 0 0)), (1, .int k), (2, .int w)]) hx hb dX4_asked_5 rfl hl (by decide) rfl (fun ls hl => ?_)
    refine lv_aload_n hx hb dX4_asked_6 rfl (lv_at hl 0 rfl) ?_
    refine lv_ifnonnull (tgt := 14) hx hb dX4_asked_7 (by decide) ?_
    refine lv_iload_n hx hb dX4_asked_14 rfl (lv_at hl 3 rfl) ?_
    rcases k_sw0_3 w with c_2 | c_2 | c_2 | c_2 | c_2
    · skip
      subst c_2
      refine lv_tableIn (tgt := 44) hx hb dX4_asked_15 (by decide) (by decide) rfl (by decide) ?_
      refine lv_aload_n hx hb dX4_asked_44 rfl (lv_at hl 1 rfl) ?_
      refine lv_aload_n hx hb dX4_asked_45 rfl (lv_at hl 0 rfl) ?_
      refine w_get X hW 11 i1 hi1 rfl rfl inG1 2 (by decide) g452 rfl dX4_asked_46 ?_
      refine lv_aload_n hx hb dX4_asked_49 rfl (lv_at hl 0 rfl) ?_
      refine w_cV1 X hS (m_X4_findsSome l G ad nA nK I J (J 11 i1 2) i1 hi1 hs) rfl rfl g390 g1 g387 g389 p18 hd_X4_findsSome ⟨Nat.le_of_ble_eq_true rfl, Nat.le_of_ble_eq_true rfl⟩ (k_rec X hW 0 0 Nat.zero_lt_one rfl rfl) hW hl.1 rfl (Nat.le_of_ble_eq_true rfl) dX4_asked_50 (Nat.zero_le _) (Nat.zero_le _) (fun H locs hW hS => ?_)
      refine lb_if_eq (tgt := 60) hx hb dX4_asked_53 (by decide) (fun c_3 => ?_) (fun c_3 => ?_)
      · skip
        refine lv_iconst (v := 1) hx hb dX4_asked_60 (by decide) ?_
        exact w_iret X hr hlk hS (by first | rfl | (simp [cAsked, hq1, c_3]; done) | (simp [cAsked, hq1, c_3]; rfl)) hW dX4_asked_61
      · skip
        refine lv_iconst (v := 0) hx hb dX4_asked_56 (by decide) ?_
        refine lv_goto (tgt := 61) hx hb dX4_asked_57 (by decide) ?_
        exact w_iret X hr hlk hS (by first | rfl | (simp [cAsked, hq1, c_3]; done) | (simp [cAsked, hq1, c_3]; rfl)) hW dX4_asked_61
    · skip
      subst c_2
      refine lv_tableIn (tgt := 62) hx hb dX4_asked_15 (by decide) (by decide) rfl (by decide) ?_
      refine lv_aload_n hx hb dX4_asked_62 rfl (lv_at hl 1 rfl) ?_
      refine lv_iload_n hx hb dX4_asked_63 rfl (lv_at hl 2 rfl) ?_
      refine lv_aload_n hx hb dX4_asked_64 rfl (lv_at hl 1 rfl) ?_
      refine w_cV1 X hS (m_X4_asksInVain l G ad nA nK I J  hs) rfl rfl g386 g1 g383 g385 p17 hd_X4_asksInVain ⟨Nat.le_of_ble_eq_true rfl, Nat.le_of_ble_eq_true rfl⟩ (k_rec X hW 0 0 Nat.zero_lt_one rfl rfl) hW hl.1 rfl (Nat.le_of_ble_eq_true rfl) dX4_asked_65 (Nat.zero_le _) (Nat.zero_le _) (fun H locs hW hS => ?_)
      refine w_cV1 X hS (m_X4_heapOf l G ad nA nK I J k (kVain nA nK I J) hs) rfl rfl g483 g1 g480 g482 p26 hd_X4_heapOf ⟨Nat.le_of_ble_eq_true rfl, Nat.le_of_ble_eq_true rfl⟩ (k_rec X hW 0 0 Nat.zero_lt_one rfl rfl) hW hl.1 rfl (Nat.le_of_ble_eq_true rfl) dX4_asked_68 (Nat.zero_le _) (Nat.zero_le _) (fun H locs hW hS => ?_)
      exact w_iret X hr hlk hS (by first | rfl | (simp [cAsked, hq1]; done) | (simp [cAsked, hq1]; rfl)) hW dX4_asked_71
    · skip
      subst c_2
      refine lv_tableIn (tgt := 72) hx hb dX4_asked_15 (by decide) (by decide) rfl (by decide) ?_
      refine lv_aload_n hx hb dX4_asked_72 rfl (lv_at hl 1 rfl) ?_
      refine lv_aload_n hx hb dX4_asked_73 rfl (lv_at hl 0 rfl) ?_
      refine w_get X hW 11 i1 hi1 rfl rfl inG1 2 (by decide) g452 rfl dX4_asked_74 ?_
      refine lv_aload_n hx hb dX4_asked_77 rfl (lv_at hl 0 rfl) ?_
      refine w_cV1 X hS (m_X4_findsSome l G ad nA nK I J (J 11 i1 2) i1 hi1 hs) rfl rfl g390 g1 g387 g389 p18 hd_X4_findsSome ⟨Nat.le_of_ble_eq_true rfl, Nat.le_of_ble_eq_true rfl⟩ (k_rec X hW 0 0 Nat.zero_lt_one rfl rfl) hW hl.1 rfl (Nat.le_of_ble_eq_true rfl) dX4_asked_78 (Nat.zero_le _) (Nat.zero_le _) (fun H locs hW hS => ?_)
      refine lb_if_eq (tgt := 88) hx hb dX4_asked_81 (by decide) (fun c_4 => ?_) (fun c_4 => ?_)
      · skip
        refine lv_aload_n hx hb dX4_asked_88 rfl (lv_at hl 1 rfl) ?_
        refine lv_aload_n hx hb dX4_asked_89 rfl (lv_at hl 0 rfl) ?_
        refine w_cV1 X hS (m_X4_helpFor l G ad nA nK I J i1 hi1 hs) rfl rfl g487 g1 g484 g486 p27 hd_X4_helpFor ⟨Nat.le_of_ble_eq_true rfl, Nat.le_of_ble_eq_true rfl⟩ (k_rec X hW 0 0 Nat.zero_lt_one rfl rfl) hW hl.1 rfl (Nat.le_of_ble_eq_true rfl) dX4_asked_90 (Nat.zero_le _) (Nat.zero_le _) (fun H locs hW hS => ?_)
        exact w_iret X hr hlk hS (by first | rfl | (simp [cAsked, hq1, c_4]; done) | (simp [cAsked, hq1, c_4]; rfl)) hW dX4_asked_93
      · skip
        refine lv_iconst (v := (-1)) hx hb dX4_asked_84 (by decide) ?_
        refine lv_goto (tgt := 93) hx hb dX4_asked_85 (by decide) ?_
        exact w_iret X hr hlk hS (by first | rfl | (simp [cAsked, hq1, c_4]; done) | (simp [cAsked, hq1, c_4]; rfl)) hW dX4_asked_93
    · skip
      subst c_2
      refine lv_tableIn (tgt := 94) hx hb dX4_asked_15 (by decide) (by decide) rfl (by decide) ?_
      refine lv_aload_n hx hb dX4_asked_94 rfl (lv_at hl 1 rfl) ?_
      refine lv_aload_n hx hb dX4_asked_95 rfl (lv_at hl 0 rfl) ?_
      refine w_cV1 X hS (m_X4_foundCount l G ad nA nK I J i1 hi1 hs) rfl rfl g491 g1 g488 g490 p28 hd_X4_foundCount ⟨Nat.le_of_ble_eq_true rfl, Nat.le_of_ble_eq_true rfl⟩ (k_rec X hW 0 0 Nat.zero_lt_one rfl rfl) hW hl.1 rfl (Nat.le_of_ble_eq_true rfl) dX4_asked_96 (Nat.zero_le _) (Nat.zero_le _) (fun H locs hW hS => ?_)
      exact w_iret X hr hlk hS (by first | rfl | (simp [cAsked, hq1]; done) | (simp [cAsked, hq1]; rfl)) hW dX4_asked_99
    · skip
      refine lv_tableOut (tgt := 100) hx hb dX4_asked_15 c_2 (by decide) ?_
      have c_2_0 : ¬ w = 0 := fun h => by rw [h] at c_2; revert c_2; decide
      have c_2_1 : ¬ w = 1 := fun h => by rw [h] at c_2; revert c_2; decide
      have c_2_2 : ¬ w = 2 := fun h => by rw [h] at c_2; revert c_2; decide
      have c_2_3 : ¬ w = 3 := fun h => by rw [h] at c_2; revert c_2; decide
      refine lv_sipush (v := (-1002)) hx hb dX4_asked_100 (by decide) ?_
      exact w_iret X hr hlk hS (by first | rfl | (simp [cAsked, hq1, c_2_0, c_2_1, c_2_2, c_2_3]; done) | (simp [cAsked, hq1, c_2_0, c_2_1, c_2_2, c_2_3]; rfl)) hW dX4_asked_103
