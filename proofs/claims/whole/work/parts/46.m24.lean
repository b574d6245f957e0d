set_option maxHeartbeats 4000000 in
set_option maxRecDepth 100000 in
theorem m_X4_ask (l : Launch) (G : k_G) (ad : Nat → Nat → Nat) (nA nK : Nat) (I : k_I) (J : k_J) (x0 : Int64) (x : Int32) (y : Int32) (z9 : Int32) (hs : k_S nA nK I) (hz : I 7 0 nK = 0) : k_Met l yX4_ask cX4_ask 6 (some FieldType.int) { frames := 5, cells := 2, slots := 6, locals := 112 } G [.ref (ad 0 0), .long (x0), .int x, .int y, .int z9] (Wd G ad nA nK I J) (some (.int ((cAsk nA nK x0 x y z9 (I, J)).1))) (fun H => ∃ ad' : Nat → Nat → Nat, (∀ c i, i < k_n nA nK c → ad' c i = ad c i) ∧ Wd G ad' nA (cAsk nA nK x0 x y z9 (I, J)).2.1 (cAsk nA nK x0 x y z9 (I, J)).2.2.1 (cAsk nA nK x0 x y z9 (I, J)).2.2.2 H) 2 6 := by
  refine k_body (by decide) (Nat.le_of_ble_eq_true rfl) ?_
  intro p e s m below meth c ls X hr hlk hnm hW hS hl
  have hx := X.1.1
  have hb := X.1.2.1
  have hG := X.1.2.2.2.2
  have hA24 := hs.2.2.1
  have hK30 := hs.2.2.2.1
  have hl : lv_has ls 6 [(0, .ref (ad 0 0)), (1, .long (x0)), (3, .int x), (4, .int y), (5, .int z9)] := hl
  refine lv_lload_n hx hb dX4_ask_0 rfl (lv_at hl 1 rfl) ?_
  refine w_cS1 X hS (m_X4_isSetOfWords l G (Wd G ad nA nK I J) x0 ) rfl rfl g175 g1 g173 g174 hd_X4_isSetOfWords ⟨Nat.le_of_ble_eq_true rfl, Nat.le_of_ble_eq_true rfl⟩ hW hl.1 rfl (Nat.le_of_ble_eq_true rfl) dX4_ask_1 (Nat.zero_le _) (Nat.zero_le _) (fun H locs hW hS => ?_)
  refine lb_if_eq (tgt := 33) hx hb dX4_ask_4 (by decide) (fun c_1 => ?_) (fun c_1 => ?_)
  · skip
    refine lv_sipush (v := (-1002)) hx hb dX4_ask_33 (by decide) ?_
    refine W.widen (k := 2) (n := 6) (Nat.zero_le _) (Nat.zero_le _) ?_
    exact w_iret X hr hlk hS (by simp [cAsk, cAskOk, c_1]) ⟨ad, fun _ _ _ => rfl, hW.to3 rfl (by simp [cAsk, cAskOk, c_1]) (by simp [cAsk, cAskOk, c_1]) (by simp [cAsk, cAskOk, c_1])⟩ dX4_ask_36
  · skip
    refine lv_iconst (v := 0) hx hb dX4_ask_7 (by decide) ?_
    refine lv_iload_n hx hb dX4_ask_8 rfl (lv_at hl 2 rfl) ?_
    refine w_cS1 X hS (m_X4_isValueOrNone l G (Wd G ad nA nK I J) 0 x ) rfl rfl g442 g1 g440 g441 hd_X4_isValueOrNone ⟨Nat.le_of_ble_eq_true rfl, Nat.le_of_ble_eq_true rfl⟩ hW hl.1 rfl (Nat.le_of_ble_eq_true rfl) dX4_ask_9 (Nat.zero_le _) (Nat.zero_le _) (fun H locs hW hS => ?_)
    refine lb_if_eq (tgt := 33) hx hb dX4_ask_12 (by decide) (fun c_2 => ?_) (fun c_2 => ?_)
    · skip
      refine lv_sipush (v := (-1002)) hx hb dX4_ask_33 (by decide) ?_
      refine W.widen (k := 2) (n := 6) (Nat.zero_le _) (Nat.zero_le _) ?_
      exact w_iret X hr hlk hS (by simp [cAsk, cAskOk, c_1, c_2]) ⟨ad, fun _ _ _ => rfl, hW.to3 rfl (by simp [cAsk, cAskOk, c_1, c_2]) (by simp [cAsk, cAskOk, c_1, c_2]) (by simp [cAsk, cAskOk, c_1, c_2])⟩ dX4_ask_36
    · skip
      refine lv_iconst (v := 1) hx hb dX4_ask_15 (by decide) ?_
      refine lv_iload hx hb dX4_ask_16 (lv_at hl 3 rfl) ?_
      refine w_cS1 X hS (m_X4_isValueOrNone l G (Wd G ad nA nK I J) 1 y ) rfl rfl g442 g1 g440 g441 hd_X4_isValueOrNone ⟨Nat.le_of_ble_eq_true rfl, Nat.le_of_ble_eq_true rfl⟩ hW hl.1 rfl (Nat.le_of_ble_eq_true rfl) dX4_ask_18 (Nat.zero_le _) (Nat.zero_le _) (fun H locs hW hS => ?_)
      refine lb_if_eq (tgt := 33) hx hb dX4_ask_21 (by decide) (fun c_3 => ?_) (fun c_3 => ?_)
      · skip
        refine lv_sipush (v := (-1002)) hx hb dX4_ask_33 (by decide) ?_
        refine W.widen (k := 2) (n := 6) (Nat.zero_le _) (Nat.zero_le _) ?_
        exact w_iret X hr hlk hS (by simp [cAsk, cAskOk, c_1, c_2, c_3]) ⟨ad, fun _ _ _ => rfl, hW.to3 rfl (by simp [cAsk, cAskOk, c_1, c_2, c_3]) (by simp [cAsk, cAskOk, c_1, c_2, c_3]) (by simp [cAsk, cAskOk, c_1, c_2, c_3])⟩ dX4_ask_36
      · skip
        refine lv_iconst (v := 2) hx hb dX4_ask_24 (by decide) ?_
        refine lv_iload hx hb dX4_ask_25 (lv_at hl 4 rfl) ?_
        refine w_cS1 X hS (m_X4_isValueOrNone l G (Wd G ad nA nK I J) 2 z9 ) rfl rfl g442 g1 g440 g441 hd_X4_isValueOrNone ⟨Nat.le_of_ble_eq_true rfl, Nat.le_of_ble_eq_true rfl⟩ hW hl.1 rfl (Nat.le_of_ble_eq_true rfl) dX4_ask_27 (Nat.zero_le _) (Nat.zero_le _) (fun H locs hW hS => ?_)
        refine lb_if_ne (tgt := 37) hx hb dX4_ask_30 (by decide) (fun c_4 => ?_) (fun c_4 => ?_)
        · skip
          refine lv_aload_n hx hb dX4_ask_37 rfl (lv_at hl 0 rfl) ?_
          refine w_get (v := .int (nI nK)) X hW 0 0 Nat.zero_lt_one rfl rfl inG4 5 (by decide) g54 (congrArg (fun z => some (Value.int z)) hs.2.1) dX4_ask_38 ?_
          refine lv_aload_n hx hb dX4_ask_41 rfl (lv_at hl 0 rfl) ?_
          refine w_get X hW 0 0 Nat.zero_lt_one rfl rfl inG4 3 (by decide) g52 rfl dX4_ask_42 ?_
          refine w_alen X hW 7 0 Nat.zero_lt_one rfl 4 rfl (v := 30) rfl dX4_ask_45 ?_
          refine lv_icmp_lt (tgt := 53) hx hb dX4_ask_46 (by decide) (fun c_5 => ?_) (fun c_5 => ?_)
          · skip
            refine lv_aload_n hx hb dX4_ask_53 rfl (lv_at hl 0 rfl) ?_
            refine w_get X hW 0 0 Nat.zero_lt_one rfl rfl inG4 3 (by decide) g52 rfl dX4_ask_54 ?_
            refine lv_aload_n hx hb dX4_ask_57 rfl (lv_at hl 0 rfl) ?_
            refine w_get (v := .int (nI nK)) X hW 0 0 Nat.zero_lt_one rfl rfl inG4 5 (by decide) g54 (congrArg (fun z => some (Value.int z)) hs.2.1) dX4_ask_58 ?_
            have h24 : nK < 30 := k_lt24 (N := 30) (by omega) (by decide) rfl c_5
            refine w_newo X hW hS (ci := 1) (fs := [.long 0, .null, .long 0]) rfl inG1 tyX1 tyX1_ok g47 g443 g9 (fun j hj => by rcases (show j = 0 ∨ j = 1 ∨ j = 2 by omega) with rfl | rfl | rfl <;> rfl) (Nat.le_of_ble_eq_true rfl) (Nat.le_of_ble_eq_true rfl) dX4_ask_61 (fun q9 H hW hS hat hqG hqn => ?_)
            refine W.cs (cells' := 1) (slots' := 3) rfl rfl ?_
            refine lv_dup hx hb dX4_ask_64 rfl ?_
            refine lv_lload_n hx hb dX4_ask_65 rfl (lv_at hl 1 rfl) ?_
            refine lv_iload_n hx hb dX4_ask_66 rfl (lv_at hl 2 rfl) ?_
            refine lv_iload hx hb dX4_ask_67 (lv_at hl 3 rfl) ?_
            refine lv_iload hx hb dX4_ask_69 (lv_at hl 4 rfl) ?_
            have hGs : G.2.2.1 ≤ H.size := Nat.le_trans X.2.2.2.2.2.1 hS.1
            refine w_cI X hS (m_X1_init l G q9 H hqG hat x0 x y z9) g446 g9 g444 g445 rfl hd_X1_init ⟨Nat.le_of_ble_eq_true rfl, Nat.le_of_ble_eq_true rfl⟩ rfl hl.1 rfl (Nat.le_of_ble_eq_true rfl) dX4_ask_71 ⟨Nat.le_of_ble_eq_true rfl, Nat.le_of_ble_eq_true rfl⟩ (fun H1 locs1 hB hS1 => ?_)
            clear hS
            refine W.cs (cells' := 2) (slots' := 6) rfl rfl ?_
            obtain ⟨i9, e9⟩ : ∃ z, z = nK := ⟨_, rfl⟩
            subst e9
            obtain ⟨q1, hNw⟩ := hB
            obtain ⟨ad1, hold, had, hW1⟩ := k_grow11 hW hqn hqG hGs hz hNw
            have ea : ad 0 0 = ad1 0 0 := (hold 0 0 Nat.zero_lt_one).symm
            have ea2 : ad 7 0 = ad1 7 0 := (hold 7 0 Nat.zero_lt_one).symm
            rw [← had]
            try rw [ea2]
            have hl : lv_has ls 6 [(0, .ref (ad1 0 0)), (1, .long (x0)), (3, .int x), (4, .int y), (5, .int z9)] := by have h := hl; rw [ea] at h; exact h
            clear hW hat hqn hNw had ea ea2
            obtain ⟨ad9, e8⟩ : ∃ z, z = ad := ⟨_, rfl⟩
            subst e8
            obtain ⟨ad, e8⟩ : ∃ z, z = ad1 := ⟨_, rfl⟩
            subst e8
            obtain ⟨nK, eN⟩ : ∃ z, z = i9 + 1 := ⟨_, rfl⟩
            have hi9 : i9 < nK := by omega
            have hs9 := hs
            obtain ⟨I9, eI9⟩ : ∃ z, z = kAsk9 i9 x y z9 I := ⟨_, rfl⟩
            obtain ⟨J9, eJ9⟩ : ∃ z, z = kAsk9J i9 x0 J := ⟨_, rfl⟩
            have hW : Wd G ad nA nK I9 J9 H1 := hW1.to3 rfl eN.symm eI9.symm eJ9.symm
            clear hW1 hGs
            have hS := hS1
            clear hS1
            generalize H1 = H at hW hS ⊢
            generalize locs1 = locs at hS ⊢
            have hfin : cAsk nA i9 x0 x y z9 (I, J) = (nI i9, i9 + 1, cAsk2 nA i9 x0 x y z9 (I, J)) := by simp [cAsk, cAskOk, c_1, c_2, c_3, c_4, c_5]
            refine w_aast X hW hS 7 11 4 30 1 Nat.zero_lt_one (show i9 < nK by omega) (fun _ _ => rfl) rfl rfl rfl (by omega) dX4_ask_74 (fun H locs hW hS => ?_)
            obtain ⟨I6, eI6⟩ : ∃ z, z = k_up I9 7 0 (upd (I9 7 0) i9 1) := ⟨_, rfl⟩
            rw [← eI6] at hW
            refine lv_aload_n hx hb dX4_ask_75 rfl (lv_at hl 0 rfl) ?_
            refine lv_dup hx hb dX4_ask_76 rfl ?_
            have hcnt : I6 0 0 5 = nI i9 := by subst eI6 eJ9 eI9; exact hs9.2.1
            refine w_get (v := .int (nI i9)) X hW 0 0 Nat.zero_lt_one rfl rfl inG4 5 (by decide) g54 (congrArg (fun z => some (Value.int z)) hcnt) dX4_ask_77 ?_
            refine lv_iconst (v := 1) hx hb dX4_ask_80 (by decide) ?_
            refine lw_iaddN (a := i9) (b := 1) hx hb dX4_ask_81 ?_
            refine w_puti X hW hS 0 0 Nat.zero_lt_one rfl rfl inG4 tyX4 tyX4_ok nmX4 5 (by decide) g54 rfl rfl rfl (Nat.le_of_ble_eq_true rfl) rfl dX4_ask_82 (fun H locs hW hS => ?_)
            obtain ⟨I7, eI7⟩ : ∃ z, z = k_up I6 0 0 (upd (I6 0 0) 5 (nI (i9 + 1))) := ⟨_, rfl⟩
            rw [← eI7] at hW
            have hs : k_S nA nK I7 := by subst eI7 eI6 eJ9 eI9; subst eN; exact k_askS (hs9.of (k_up_C (by decide)) (k_up_C (by decide)) (k_up_C (by decide))) h24
            refine lv_aload_n hx hb dX4_ask_85 rfl (lv_at hl 0 rfl) ?_
            refine w_cVv X hS (m_X4_settle l G ad nA nK I7 J9  hs) rfl rfl g95 g1 g92 g94 p0 hd_X4_settle ⟨Nat.le_of_ble_eq_true rfl, Nat.le_of_ble_eq_true rfl⟩ (k_rec X hW 0 0 Nat.zero_lt_one rfl rfl) hW hl.1 rfl (Nat.le_of_ble_eq_true rfl) dX4_ask_86 (Nat.le_of_ble_eq_true rfl) (Nat.le_of_ble_eq_true rfl) (fun H locs hW hS => ?_)
            obtain ⟨I8, eI8⟩ : ∃ z, z = (kSettle nA nK (I7, J9)).1 := ⟨_, rfl⟩
            rw [← eI8] at hW
            have hs8 : k_S nA nK I8 := by rw [eI8]; exact (kSettle_S (s := (I7, J9)) hs)
            obtain ⟨J8, eJ8⟩ : ∃ z, z = (kSettle nA nK (I7, J9)).2 := ⟨_, rfl⟩
            rw [← eJ8] at hW
            refine lv_aload_n hx hb dX4_ask_89 rfl (lv_at hl 0 rfl) ?_
            refine w_get (v := .int (nI nK)) X hW 0 0 Nat.zero_lt_one rfl rfl inG4 5 (by decide) g54 (congrArg (fun z => some (Value.int z)) hs8.2.1) dX4_ask_90 ?_
            refine lv_iconst (v := 1) hx hb dX4_ask_93 (by decide) ?_
            refine lw_isubN (a := nK) (b := 1) (by omega) hx hb dX4_ask_94 ?_
            exact w_iret X hr hlk hS (by rw [hfin]; subst eJ8 eI8 eI7 eI6 eJ9 eI9; subst eN; rfl) ⟨ad, hold, hW.to3 rfl (by rw [hfin]; exact eN) (by rw [hfin]; subst eJ8 eI8 eI7 eI6 eJ9 eI9; subst eN; rfl) (by rw [hfin]; subst eJ8 eI8 eI7 eI6 eJ9 eI9; subst eN; rfl)⟩ dX4_ask_95
          · skip
            refine lv_sipush (v := (-1004)) hx hb dX4_ask_49 (by decide) ?_
            refine W.widen (k := 2) (n := 6) (Nat.zero_le _) (Nat.zero_le _) ?_
            exact w_iret X hr hlk hS (by simp [cAsk, cAskOk, c_1, c_2, c_3, c_4, c_5]) ⟨ad, fun _ _ _ => rfl, hW.to3 rfl (by simp [cAsk, cAskOk, c_1, c_2, c_3, c_4, c_5]) (by simp [cAsk, cAskOk, c_1, c_2, c_3, c_4, c_5]) (by simp [cAsk, cAskOk, c_1, c_2, c_3, c_4, c_5])⟩ dX4_ask_52
        · skip
          refine lv_sipush (v := (-1002)) hx hb dX4_ask_33 (by decide) ?_
          refine W.widen (k := 2) (n := 6) (Nat.zero_le _) (Nat.zero_le _) ?_
          exact w_iret X hr hlk hS (by simp [cAsk, cAskOk, c_1, c_2, c_3, c_4]) ⟨ad, fun _ _ _ => rfl, hW.to3 rfl (by simp [cAsk, cAskOk, c_1, c_2, c_3, c_4]) (by simp [cAsk, cAskOk, c_1, c_2, c_3, c_4]) (by simp [cAsk, cAskOk, c_1, c_2, c_3, c_4])⟩ dX4_ask_36
