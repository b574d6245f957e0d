set_option maxHeartbeats 4000000 in
set_option maxRecDepth 100000 in
theorem m_X4_settlePlain (l : Launch) (G : k_G) (ad : Nat → Nat → Nat) (nA nK : Nat) (I : k_I) (J : k_J) (i : Nat) (hi : i < nA) (hs : k_S nA nK I) : k_Met l yX4_settlePlain cX4_settlePlain 2 none { frames := 2, cells := 0, slots := 0, locals := 43 } G [.ref (ad 0 0), .ref (ad 8 i)] (Wd G ad nA nK I J) (none) (Wd G ad nA nK ((kSP i (I, J)).1) ((kSP i (I, J)).2)) 0 0 := by
  refine k_body (by decide) (Nat.le_of_ble_eq_true rfl) ?_
  intro p e s m below meth c ls X hr hlk hnm hW hS hl
  have hx := X.1.1
  have hb := X.1.2.1
  have hG := X.1.2.2.2.2
  have hl : lv_has ls 2 [(0, .ref (ad 0 0)), (1, .ref (ad 8 i))] := hl
  refine lv_aload_n hx hb dX4_settlePlain_0 rfl (lv_at hl 1 rfl) ?_
  refine lv_ifnull hx hb dX4_settlePlain_1 ?_
  refine lv_aload_n hx hb dX4_settlePlain_4 rfl (lv_at hl 1 rfl) ?_
  refine w_get X hW 8 i hi rfl rfl inG0 1 (by decide) g189 rfl dX4_settlePlain_5 ?_
  refine lv_if_eq (tgt := 12) hx hb dX4_settlePlain_8 (by decide) (fun c_1 => ?_) (fun c_1 => ?_)
  · skip
    refine lv_aload_n hx hb dX4_settlePlain_12 rfl (lv_at hl 1 rfl) ?_
    refine lv_aload_n hx hb dX4_settlePlain_13 rfl (lv_at hl 0 rfl) ?_
    refine w_get X hW 0 0 Nat.zero_lt_one rfl rfl inG4 1 (by decide) g50 rfl dX4_settlePlain_14 ?_
    refine lv_aload_n hx hb dX4_settlePlain_17 rfl (lv_at hl 1 rfl) ?_
    refine w_get X hW 8 i hi rfl rfl inG0 6 (by decide) g197 rfl dX4_settlePlain_18 ?_
    refine lv_aload_n hx hb dX4_settlePlain_21 rfl (lv_at hl 1 rfl) ?_
    refine w_get X hW 8 i hi rfl rfl inG0 7 (by decide) g199 rfl dX4_settlePlain_22 ?_
    refine w_cV1 X hS (m_X3_isChangedSince l G ad nA nK I J (I 8 i 6) (I 8 i 7) ) rfl rfl g107 g3 g104 g105 g106 hd_X3_isChangedSince ⟨Nat.le_of_ble_eq_true rfl, Nat.le_of_ble_eq_true rfl⟩ (k_rec X hW 3 0 Nat.zero_lt_one rfl rfl) hW hl.1 rfl (Nat.le_of_ble_eq_true rfl) dX4_settlePlain_25 (Nat.zero_le _) (Nat.zero_le _) (fun H locs hW hS => ?_)
    refine w_puti X hW hS 8 i hi rfl rfl inG0 tyX0 tyX0_ok nmX0 11 (by decide) g207 rfl (k_b_n _) (k_b_f _) (Nat.le_of_ble_eq_true rfl) rfl dX4_settlePlain_28 (fun H locs hW hS => ?_)
    obtain ⟨I2, eI2⟩ : ∃ z, z = k_up I 8 i (upd (I 8 i) 11 (k_b (kChg I (I 8 i 6) (I 8 i 7)))) := ⟨_, rfl⟩
    rw [← eI2] at hW
    have hs2 : k_S nA nK I2 := by rw [eI2]; exact hs.up 8 _ _ (by decide)
    refine lv_aload_n hx hb dX4_settlePlain_31 rfl (lv_at hl 1 rfl) ?_
    refine lv_aload_n hx hb dX4_settlePlain_32 rfl (lv_at hl 0 rfl) ?_
    refine w_get X hW 0 0 Nat.zero_lt_one rfl rfl inG4 0 (by decide) g49 rfl dX4_settlePlain_33 ?_
    refine lv_aload_n hx hb dX4_settlePlain_36 rfl (lv_at hl 1 rfl) ?_
    refine w_get X hW 8 i hi rfl rfl inG0 5 (by decide) g195 rfl dX4_settlePlain_37 ?_
    refine w_cV1 X hS (m_X2_folded l G ad nA nK I2 J (J 8 i 5) ) rfl rfl g114 g2 g111 g112 g113 hd_X2_folded ⟨Nat.le_of_ble_eq_true rfl, Nat.le_of_ble_eq_true rfl⟩ (k_rec X hW 1 0 Nat.zero_lt_one rfl rfl) hW hl.1 rfl (Nat.le_of_ble_eq_true rfl) dX4_settlePlain_40 (Nat.zero_le _) (Nat.zero_le _) (fun H locs hW hS => ?_)
    refine w_putl X hW hS 8 i hi rfl rfl inG0 tyX0 tyX0_ok nmX0 10 (by decide) g205 rfl rfl rfl (Nat.le_of_ble_eq_true rfl) rfl dX4_settlePlain_43 (fun H locs hW hS => ?_)
    obtain ⟨J3, eJ3⟩ : ∃ z, z = k_up J 8 i (vp_updL (J 8 i) 10 (kFold (I2 2 0) (J 8 i 5))) := ⟨_, rfl⟩
    rw [← eJ3] at hW
    exact w_vret X hr hlk hS (hW.to (by first | rfl | (subst eJ3 eI2; simp [kSP, k_up_C, c_1]; done) | (subst eJ3 eI2; rfl) | (subst eJ3 eI2; simp [kSP, k_up_C, c_1]; done) | (subst eJ3 eI2; simp [kSP, k_up_C, c_1]; rfl) | (simp [kSP, k_up_C, c_1, eI2, eJ3]; done)) (by first | rfl | (subst eJ3 eI2; simp [kSP, k_up_C, c_1]; done) | (subst eJ3 eI2; rfl) | (subst eJ3 eI2; simp [kSP, k_up_C, c_1]; done) | (subst eJ3 eI2; simp [kSP, k_up_C, c_1]; rfl) | (simp [kSP, k_up_C, c_1, eI2, eJ3]; done))) dX4_settlePlain_46
  · skip
    exact w_vret X hr hlk hS (hW.to (by first | rfl | (simp [kSP, k_up_C, c_1]; done)) (by first | rfl | (simp [kSP, k_up_C, c_1]; done))) dX4_settlePlain_11
set_option maxHeartbeats 4000000 in
set_option maxRecDepth 100000 in
theorem m_X4_widenUnder (l : Launch) (G : k_G) (ad : Nat → Nat → Nat) (nA nK : Nat) (I : k_I) (J : k_J) (i : Nat) (hi : i < nA) (hs : k_S nA nK I) : k_Met l yX4_widenUnder cX4_widenUnder 5 (some FieldType.boolean) { frames := 2, cells := 0, slots := 0, locals := 43 } G [.ref (ad 0 0), .ref (ad 8 i)] (Wd G ad nA nK I J) (some (.int (k_b (!decide (kWiden nA i I 8 i 12 = I 8 i 12))))) (Wd G ad nA nK (kWiden nA i I) J) 0 0 := by
  refine k_body (by decide) (Nat.le_of_ble_eq_true rfl) ?_
  intro p e s m below meth c ls X hr hlk hnm hW hS hl
  have hx := X.1.1
  have hb := X.1.2.1
  have hG := X.1.2.2.2.2
  have hA24 := hs.2.2.1
  have hK30 := hs.2.2.2.1
  have hl : lv_has ls 5 [(0, .ref (ad 0 0)), (1, .ref (ad 8 i))] := hl
  refine lv_aload_n hx hb dX4_widenUnder_0 rfl (lv_at hl 1 rfl) ?_
  refine lv_ifnonnull (tgt := 6) hx hb dX4_widenUnder_1 (by decide) ?_
  refine lv_aload_n hx hb dX4_widenUnder_6 rfl (lv_at hl 1 rfl) ?_
  refine w_get X hW 8 i hi rfl rfl inG0 12 (by decide) g209 rfl dX4_widenUnder_7 ?_
  refine lv_istore_n (lv' := [(2, .int (I 8 i 12)), (0, .ref (ad 0 0)), (1, .ref (ad 8 i))]) hx hb dX4_widenUnder_10 rfl hl (by decide) rfl (fun ls hl => ?_)
  refine lv_iconst (v := 0) hx hb dX4_widenUnder_11 (by decide) ?_
  refine lv_istore_n (lv' := [(3, .int 0), (2, .int (I 8 i 12)), (0, .ref (ad 0 0)), (1, .ref (ad 8 i))]) hx hb dX4_widenUnder_12 rfl hl (by decide) rfl (fun ls hl => ?_)
  have loop13 : ∀ (d j : Nat) (m1 : k_I), j + d = 4 → (kLoop (kW1 nA i) d j m1 = kWiden nA i I) → (k_S nA nK m1) → ∀ (H : Heap) (locs : List Loc), Wd G ad nA nK m1 J H → va_S (k_A G) s.heap H locs → ∀ ls : Array Slot, lv_has ls 5 [(3, .int (nI j)), (2, .int (I 8 i 12)), (0, .ref (ad 0 0)), (1, .ref (ad 8 i))] → W p l e { frames := 2, cells := 0, slots := 0, locals := 43 } s m ([.ref (ad 0 0), .ref (ad 8 i)] : List Value).toArray below meth c H locs 0 0 (MQ below (k_Q G (some (.int (k_b (!decide (kWiden nA i I 8 i 12 = I 8 i 12))))) (Wd G ad nA nK (kWiden nA i I) J)) ([.ref (ad 0 0), .ref (ad 8 i)] : List Value).toArray s 0 0 (k_A G)) (F0 m 13 ls []) := by
    intro d
    induction d with
    | zero =>
      intro j m1 hi13 hz13 hs_13 H locs hW hS ls hl
      have eIm1 : m1 = kWiden nA i I := hz13
      refine lv_iload_n hx hb dX4_widenUnder_13 rfl (lv_at hl 0 rfl) ?_
      refine lv_iconst (v := 4) hx hb dX4_widenUnder_14 (by decide) ?_
      refine lv_icmp_ge (tgt := 63) hx hb dX4_widenUnder_15 (by decide) (fun _ => ?_) (fun c_1 => absurd (nI_le (a := 4) (b := j) (by omega) (by omega)) c_1)
      refine lv_aload_n hx hb dX4_widenUnder_63 rfl (lv_at hl 3 rfl) ?_
      refine w_get X hW 8 i hi rfl rfl inG0 12 (by decide) g209 rfl dX4_widenUnder_64 ?_
      refine lv_iload_n hx hb dX4_widenUnder_67 rfl (lv_at hl 1 rfl) ?_
      refine lv_icmp_eq (tgt := 75) hx hb dX4_widenUnder_68 (by decide) (fun c_2 => ?_) (fun c_2 => ?_)
      · skip
        refine lv_iconst (v := 0) hx hb dX4_widenUnder_75 (by decide) ?_
        exact w_zret X hr hlk hS (by rw [← eIm1]; simp [k_b, c_2]) (k_b_n _) (hW.to (by first | rfl | (subst eIm1; simp [kW1, c_2]; done) | (subst eIm1; rfl) | (subst eIm1; simp [kW1, c_2]; done) | (subst eIm1; simp [kW1, c_2]; rfl) | (simp [kW1, c_2, eIm1]; done)) rfl) dX4_widenUnder_76
      · skip
        refine lv_iconst (v := 1) hx hb dX4_widenUnder_71 (by decide) ?_
        refine lv_goto (tgt := 76) hx hb dX4_widenUnder_72 (by decide) ?_
        exact w_zret X hr hlk hS (by rw [← eIm1]; simp [k_b, c_2]) (k_b_n _) (hW.to (by first | rfl | (subst eIm1; simp [kW1, c_2]; done) | (subst eIm1; rfl) | (subst eIm1; simp [kW1, c_2]; done) | (subst eIm1; simp [kW1, c_2]; rfl) | (simp [kW1, c_2, eIm1]; done)) rfl) dX4_widenUnder_76
    | succ d ih =>
      intro j m1 hi13 hz13 hs_13 H locs hW hS ls hl
      have hlt13 : j < 4 := by omega
      have ih13 := ih
      refine lv_iload_n hx hb dX4_widenUnder_13 rfl (lv_at hl 0 rfl) ?_
      refine lv_iconst (v := 4) hx hb dX4_widenUnder_14 (by decide) ?_
      refine lv_icmp_ge (tgt := 63) hx hb dX4_widenUnder_15 (by decide) (fun c_3 => absurd c_3 (nI_ge (a := j) (b := 4) (by omega) (by omega))) (fun _ => ?_)
      refine lv_aload_n hx hb dX4_widenUnder_18 rfl (lv_at hl 2 rfl) ?_
      refine lv_aload_n hx hb dX4_widenUnder_19 rfl (lv_at hl 3 rfl) ?_
      refine lv_iload_n hx hb dX4_widenUnder_20 rfl (lv_at hl 0 rfl) ?_
      refine w_cV1 X hS (m_X0_partAt l G ad nA nK m1 J i (nI j) hi) rfl rfl g126 g5 g123 g124 g125 hd_X0_partAt ⟨Nat.le_of_ble_eq_true rfl, Nat.le_of_ble_eq_true rfl⟩ (k_rec X hW 8 i hi rfl rfl) hW hl.1 rfl (Nat.le_of_ble_eq_true rfl) dX4_widenUnder_21 (Nat.zero_le _) (Nat.zero_le _) (fun H locs hW hS => ?_)
      refine w_cV1 X hS (m_X4_endOf l G ad nA nK m1 J (kPart m1 i (nI j)) hs_13) rfl rfl g130 g1 g127 g129 p5 hd_X4_endOf ⟨Nat.le_of_ble_eq_true rfl, Nat.le_of_ble_eq_true rfl⟩ (k_rec X hW 0 0 Nat.zero_lt_one rfl rfl) hW hl.1 rfl (Nat.le_of_ble_eq_true rfl) dX4_widenUnder_24 (Nat.zero_le _) (Nat.zero_le _) (fun H locs hW hS => ?_)
      rcases hq4 : kEnd nA m1 (kPart m1 i (nI j)) with _ | i4
      · skip
        refine lv_astoreN (lv' := [(4, .null), (3, .int (nI j)), (2, .int (I 8 i 12)), (0, .ref (ad 0 0)), (1, .ref (ad 8 i))]) hx hb dX4_widenUnder_27 hl (by decide) rfl (fun ls hl => ?_)
        refine lv_aloadN hx hb dX4_widenUnder_29 (lv_at hl 0 rfl) ?_
        refine lv_ifnullN (tgt := 57) hx hb dX4_widenUnder_31 (by decide) ?_
        refine lv_iinc (v := nI (j + 1)) (lv' := [(3, .int (nI (j + 1))), (4, .null), (2, .int (I 8 i 12)), (0, .ref (ad 0 0)), (1, .ref (ad 8 i))]) hx hb dX4_widenUnder_57 hl (k := 1) rfl (nI_1 j) (by decide) rfl (fun ls hl => ?_)
        refine lv_goto (tgt := 13) hx hb dX4_widenUnder_60 (by decide) ?_
        exact ih13 (j + 1) m1 (by omega) (by first | exact hz13 | (rw [← hz13]; simp [kLoop, kW1, hq4]; done) | (simp [← hz13, kLoop, kW1, hq4]; done) | (rw [← hz13]; simp only [kLoop, kW1, hq4, eq_self, if_true, if_false, Bool.false_eq_true, decide_true, decide_false, Bool.not_true, Bool.not_false, Bool.false_or, Bool.true_or, Bool.and_true, Bool.true_and, Bool.false_and, Bool.and_false, Bool.or_true, Bool.or_false]; done)) hs_13 _ _ hW hS ls (lv_sub hl [0, 2, 3, 4] rfl)
      · skip
        have hi4 := kEnd_b hq4
        refine lv_astore (lv' := [(4, .ref (ad 8 i4)), (3, .int (nI j)), (2, .int (I 8 i 12)), (0, .ref (ad 0 0)), (1, .ref (ad 8 i))]) hx hb dX4_widenUnder_27 hl (by decide) rfl (fun ls hl => ?_)
        refine lv_aload hx hb dX4_widenUnder_29 (lv_at hl 0 rfl) ?_
        refine lv_ifnull hx hb dX4_widenUnder_31 ?_
        refine lv_aload_n hx hb dX4_widenUnder_34 rfl (lv_at hl 4 rfl) ?_
        refine lv_dup hx hb dX4_widenUnder_35 rfl ?_
        refine w_get X hW 8 i hi rfl rfl inG0 12 (by decide) g209 rfl dX4_widenUnder_36 ?_
        refine lv_aload hx hb dX4_widenUnder_39 (lv_at hl 0 rfl) ?_
        refine w_get X hW 8 i4 hi4 rfl rfl inG0 0 (by decide) g187 rfl dX4_widenUnder_41 ?_
        refine w_cS1 X hS (m_X4_bit l G (Wd G ad nA nK m1 J) (m1 8 i4 0) ) rfl rfl g110 g1 g131 g109 hd_X4_bit ⟨Nat.le_of_ble_eq_true rfl, Nat.le_of_ble_eq_true rfl⟩ hW hl.1 rfl (Nat.le_of_ble_eq_true rfl) dX4_widenUnder_44 (Nat.zero_le _) (Nat.zero_le _) (fun H locs hW hS => ?_)
        refine lv_aload hx hb dX4_widenUnder_47 (lv_at hl 0 rfl) ?_
        refine w_get X hW 8 i4 hi4 rfl rfl inG0 12 (by decide) g209 rfl dX4_widenUnder_49 ?_
        refine lv_ior hx hb dX4_widenUnder_52 ?_
        refine lv_ior hx hb dX4_widenUnder_53 ?_
        refine lv_topi (fun x5 ex5 => ?_)
        refine w_puti X hW hS 8 i hi rfl rfl inG0 tyX0 tyX0_ok nmX0 12 (by decide) g209 rfl rfl rfl (Nat.le_of_ble_eq_true rfl) rfl dX4_widenUnder_54 (fun H locs hW hS => ?_)
        obtain ⟨I6, eI6⟩ : ∃ z, z = k_up m1 8 i (upd (m1 8 i) 12 x5) := ⟨_, rfl⟩
        rw [← eI6] at hW
        have hs6 : k_S nA nK I6 := by rw [eI6]; exact hs_13.up 8 _ _ (by decide)
        refine lv_iinc (v := nI (j + 1)) (lv' := [(3, .int (nI (j + 1))), (4, .ref (ad 8 i4)), (2, .int (I 8 i 12)), (0, .ref (ad 0 0)), (1, .ref (ad 8 i))]) hx hb dX4_widenUnder_57 hl (k := 1) rfl (nI_1 j) (by decide) rfl (fun ls hl => ?_)
        refine lv_goto (tgt := 13) hx hb dX4_widenUnder_60 (by decide) ?_
        exact ih13 (j + 1) I6 (by omega) (by subst eI6; first | exact hz13 | (rw [← hz13]; simp [kLoop, kW1, hq4, ex5]; done) | (rw [← hz13]; simp [kLoop, kW1, hq4, ex5]; rfl)) hs6 _ _ hW hS ls (lv_sub hl [0, 2, 3, 4] rfl)
  exact loop13 4 0 I (by omega) rfl hs _ _ hW hS ls (lv_sub hl [0, 1, 2, 3] rfl)
set_option maxHeartbeats 4000000 in
set_option maxRecDepth 100000 in
theorem m_X4_settleUnder (l : Launch) (G : k_G) (ad : Nat → Nat → Nat) (nA nK : Nat) (I : k_I) (J : k_J) (hs : k_S nA nK I) : k_Met l yX4_settleUnder cX4_settleUnder 4 none { frames := 3, cells := 0, slots := 0, locals := 67 } G [.ref (ad 0 0)] (Wd G ad nA nK I J) (none) (Wd G ad nA nK (kUnd nA I) J) 0 0 := by
  refine k_body (by decide) (Nat.le_of_ble_eq_true rfl) ?_
  intro p e s m below meth c ls X hr hlk hnm hW hS hl
  have hx := X.1.1
  have hb := X.1.2.1
  have hG := X.1.2.2.2.2
  have hA24 := hs.2.2.1
  have hK30 := hs.2.2.2.1
  have hl : lv_has ls 4 [(0, .ref (ad 0 0))] := hl
  refine lv_iconst (v := 0) hx hb dX4_settleUnder_0 (by decide) ?_
  refine lv_istore_n (lv' := [(1, .int 0), (0, .ref (ad 0 0))]) hx hb dX4_settleUnder_1 rfl hl (by decide) rfl (fun ls hl => ?_)
  have loop2 : ∀ (d j : Nat) (m1 : k_I), j + d = nA → (kLoop (fun a I => k_up I 8 a (upd (I 8 a) 12 0)) d j m1 = kUnd0 nA I) → (k_S nA nK m1) → ∀ (H : Heap) (locs : List Loc), Wd G ad nA nK m1 J H → va_S (k_A G) s.heap H locs → ∀ ls : Array Slot, lv_has ls 4 [(1, .int (nI j)), (0, .ref (ad 0 0))] → W p l e { frames := 3, cells := 0, slots := 0, locals := 67 } s m ([.ref (ad 0 0)] : List Value).toArray below meth c H locs 0 0 (MQ below (k_Q G (none) (Wd G ad nA nK (kUnd nA I) J)) ([.ref (ad 0 0)] : List Value).toArray s 0 0 (k_A G)) (F0 m 2 ls []) := by
    intro d
    induction d with
    | zero =>
      intro j m1 hi2 hz2 hs_2 H locs hW hS ls hl
      have eIm1 : m1 = kUnd0 nA I := hz2
      refine lv_iload_n hx hb dX4_settleUnder_2 rfl (lv_at hl 0 rfl) ?_
      refine lv_aload_n hx hb dX4_settleUnder_3 rfl (lv_at hl 1 rfl) ?_
      refine w_get (v := .int (nI nA)) X hW 0 0 Nat.zero_lt_one rfl rfl inG4 4 (by decide) g53 (congrArg (fun z => some (Value.int z)) hs_2.1) dX4_settleUnder_4 ?_
      refine lv_icmp_ge (tgt := 31) hx hb dX4_settleUnder_7 (by decide) (fun _ => ?_) (fun c_1 => absurd (nI_le (a := nA) (b := j) (by omega) (by omega)) c_1)
      refine lv_iconst (v := 0) hx hb dX4_settleUnder_31 (by decide) ?_
      refine lv_istore_n (lv' := [(1, .int 0), (0, .ref (ad 0 0))]) hx hb dX4_settleUnder_32 rfl hl (by decide) rfl (fun ls hl => ?_)
      have loop33 : ∀ (d r : Nat) (m2 : k_I), r + d = 24 → (kLoop (fun _ I => kUndR nA I) d r m2 = kLoop (fun _ I => kUndR nA I) 24 0 m1) → (k_S nA nK m2) → ∀ (H : Heap) (locs : List Loc), Wd G ad nA nK m2 J H → va_S (k_A G) s.heap H locs → ∀ ls : Array Slot, lv_has ls 4 [(1, .int (nI r)), (0, .ref (ad 0 0))] → W p l e { frames := 3, cells := 0, slots := 0, locals := 67 } s m ([.ref (ad 0 0)] : List Value).toArray below meth c H locs 0 0 (MQ below (k_Q G (none) (Wd G ad nA nK (kUnd nA I) J)) ([.ref (ad 0 0)] : List Value).toArray s 0 0 (k_A G)) (F0 m 33 ls []) := by
        intro d
        induction d with
        | zero =>
          intro r m2 hi33 hz33 hs_33 H locs hW hS ls hl
          have eIm2 : m2 = kLoop (fun _ I => kUndR nA I) 24 0 m1 := hz33
          refine lv_iload_n hx hb dX4_settleUnder_33 rfl (lv_at hl 0 rfl) ?_
          refine lv_bipush (v := 24) hx hb dX4_settleUnder_34 (by decide) ?_
          refine lv_icmp_ge (tgt := 84) hx hb dX4_settleUnder_36 (by decide) (fun _ => ?_) (fun c_2 => absurd (nI_le (a := 24) (b := r) (by omega) (by omega)) c_2)
          exact w_vret X hr hlk hS (hW.to (by first | rfl | (subst eIm2 eIm1; simp []; done) | (subst eIm2 eIm1; rfl) | (subst eIm2 eIm1; simp []; done) | (subst eIm2 eIm1; simp []; rfl) | (simp [eIm1, eIm2]; done)) rfl) dX4_settleUnder_84
        | succ d ih =>
          intro r m2 hi33 hz33 hs_33 H locs hW hS ls hl
          have hlt33 : r < 24 := by omega
          have ih33 := ih
          refine lv_iload_n hx hb dX4_settleUnder_33 rfl (lv_at hl 0 rfl) ?_
          refine lv_bipush (v := 24) hx hb dX4_settleUnder_34 (by decide) ?_
          refine lv_icmp_ge (tgt := 84) hx hb dX4_settleUnder_36 (by decide) (fun c_3 => absurd c_3 (nI_ge (a := r) (b := 24) (by omega) (by omega))) (fun _ => ?_)
          refine lv_iconst (v := 0) hx hb dX4_settleUnder_39 (by decide) ?_
          refine lv_istore_n (lv' := [(2, .int 0), (1, .int (nI r)), (0, .ref (ad 0 0))]) hx hb dX4_settleUnder_40 rfl hl (by decide) rfl (fun ls hl => ?_)
          refine lv_iconst (v := 0) hx hb dX4_settleUnder_41 (by decide) ?_
          refine lv_istore_n (lv' := [(3, .int 0), (2, .int 0), (1, .int (nI r)), (0, .ref (ad 0 0))]) hx hb dX4_settleUnder_42 rfl hl (by decide) rfl (fun ls hl => ?_)
          have loop43 : ∀ (d2 j : Nat) (m3 : k_I) (w2 : Bool), j + d2 = nA → (kLoop (fun a I => kWiden nA a I) d2 j m3 = kUndR nA m2) → (w2 = false → m3 = m2) → (k_S nA nK m3) → ∀ (H : Heap) (locs : List Loc), Wd G ad nA nK m3 J H → va_S (k_A G) s.heap H locs → ∀ ls : Array Slot, lv_has ls 4 [(3, .int (nI j)), (2, .int (k_b w2)), (1, .int (nI r)), (0, .ref (ad 0 0))] → W p l e { frames := 3, cells := 0, slots := 0, locals := 67 } s m ([.ref (ad 0 0)] : List Value).toArray below meth c H locs 0 0 (MQ below (k_Q G (none) (Wd G ad nA nK (kUnd nA I) J)) ([.ref (ad 0 0)] : List Value).toArray s 0 0 (k_A G)) (F0 m 43 ls []) := by
            intro d2
            induction d2 with
            | zero =>
              intro j m3 w2 hi43 hz43 hw43 hs_43 H locs hW hS ls hl
              have eIm3 : m3 = kUndR nA m2 := hz43
              refine lv_iload_n hx hb dX4_settleUnder_43 rfl (lv_at hl 0 rfl) ?_
              refine lv_aload_n hx hb dX4_settleUnder_44 rfl (lv_at hl 3 rfl) ?_
              refine w_get (v := .int (nI nA)) X hW 0 0 Nat.zero_lt_one rfl rfl inG4 4 (by decide) g53 (congrArg (fun z => some (Value.int z)) hs_43.1) dX4_settleUnder_45 ?_
              refine lv_icmp_ge (tgt := 71) hx hb dX4_settleUnder_48 (by decide) (fun _ => ?_) (fun c_4 => absurd (nI_le (a := nA) (b := j) (by omega) (by omega)) c_4)
              refine lv_iload_n hx hb dX4_settleUnder_71 rfl (lv_at hl 1 rfl) ?_
              refine lb_if_ne (tgt := 78) hx hb dX4_settleUnder_72 (by decide) (fun c_5 => ?_) (fun c_5 => ?_)
              · skip
                refine lv_iinc (v := nI (r + 1)) (lv' := [(1, .int (nI (r + 1))), (3, .int (nI j)), (2, .int (k_b w2)), (0, .ref (ad 0 0))]) hx hb dX4_settleUnder_78 hl (k := 2) rfl (nI_1 r) (by decide) rfl (fun ls hl => ?_)
                refine lv_goto (tgt := 33) hx hb dX4_settleUnder_81 (by decide) ?_
                exact ih33 (r + 1) m3 (by omega) (by subst eIm3; first | exact hz33 | (rw [← hz33]; simp [kLoop, c_5]; done) | (rw [← hz33]; simp [kLoop, c_5]; rfl)) hs_43 _ _ hW hS ls (lv_sub hl [0, 3] rfl)
              · skip
                refine lv_goto (tgt := 84) hx hb dX4_settleUnder_75 (by decide) ?_
                exact w_vret X hr hlk hS (hW.to ((hw43 c_5).trans ((kLoop_stop (f := fun _ I => kUndR nA I) (fun _ => eIm3.symm.trans (hw43 c_5)) _ _).symm.trans (hz33.trans (congrArg (fun z => kLoop (fun _ I => kUndR nA I) 24 0 z) eIm1)))) rfl) dX4_settleUnder_84
            | succ d2 ih =>
              intro j m3 w2 hi43 hz43 hw43 hs_43 H locs hW hS ls hl
              have hlt43 : j < nA := by omega
              have ih43 := ih
              refine lv_iload_n hx hb dX4_settleUnder_43 rfl (lv_at hl 0 rfl) ?_
              refine lv_aload_n hx hb dX4_settleUnder_44 rfl (lv_at hl 3 rfl) ?_
              refine w_get (v := .int (nI nA)) X hW 0 0 Nat.zero_lt_one rfl rfl inG4 4 (by decide) g53 (congrArg (fun z => some (Value.int z)) hs_43.1) dX4_settleUnder_45 ?_
              refine lv_icmp_ge (tgt := 71) hx hb dX4_settleUnder_48 (by decide) (fun c_6 => absurd c_6 (nI_ge (a := j) (b := nA) (by omega) (by omega))) (fun _ => ?_)
              refine lv_aload_n hx hb dX4_settleUnder_51 rfl (lv_at hl 3 rfl) ?_
              refine lv_aload_n hx hb dX4_settleUnder_52 rfl (lv_at hl 3 rfl) ?_
              refine lv_iload_n hx hb dX4_settleUnder_53 rfl (lv_at hl 0 rfl) ?_
              refine w_cV1 X hS (m_X4_answerAt l G ad nA nK m3 J (nI j) hs_43) rfl rfl g99 g1 g96 g98 p1 hd_X4_answerAt ⟨Nat.le_of_ble_eq_true rfl, Nat.le_of_ble_eq_true rfl⟩ (k_rec X hW 0 0 Nat.zero_lt_one rfl rfl) hW hl.1 rfl (Nat.le_of_ble_eq_true rfl) dX4_settleUnder_54 (Nat.zero_le _) (Nat.zero_le _) (fun H locs hW hS => ?_)
              rw [kAns_lt (n := nA) (a := j) (by omega) (by omega)]
              refine w_cV1 X hS (m_X4_widenUnder l G ad nA nK m3 J j (show j < nA by omega) hs_43) rfl rfl g122 g1 g119 g121 p4 hd_X4_widenUnder ⟨Nat.le_of_ble_eq_true rfl, Nat.le_of_ble_eq_true rfl⟩ (k_rec X hW 0 0 Nat.zero_lt_one rfl rfl) hW hl.1 rfl (Nat.le_of_ble_eq_true rfl) dX4_settleUnder_57 (Nat.zero_le _) (Nat.zero_le _) (fun H locs hW hS => ?_)
              obtain ⟨I7, eI7⟩ : ∃ z, z = kWiden nA j m3 := ⟨_, rfl⟩
              rw [← eI7] at hW
              have hs7 : k_S nA nK I7 := by rw [eI7]; exact (kWiden_S hs_43)
              refine lb_if_eq (tgt := 65) hx hb dX4_settleUnder_60 (by decide) (fun c_8 => ?_) (fun c_8 => ?_)
              · skip
                have c_8' : (kWiden nA j m3 8 j 12 = m3 8 j 12) := by simpa using c_8
                refine lv_iinc (v := nI (j + 1)) (lv' := [(3, .int (nI (j + 1))), (2, .int (k_b w2)), (1, .int (nI r)), (0, .ref (ad 0 0))]) hx hb dX4_settleUnder_65 hl (k := 0) rfl (nI_1 j) (by decide) rfl (fun ls hl => ?_)
                refine lv_goto (tgt := 43) hx hb dX4_settleUnder_68 (by decide) ?_
                exact ih43 (j + 1) I7 w2 (by omega) (by subst eI7; first | exact hz43 | (rw [← hz43]; simp [kLoop, c_8, c_8']; done) | (rw [← hz43]; simp [kLoop, c_8, c_8']; rfl)) (fun hw => eI7.trans ((kWiden_same c_8').trans (hw43 hw))) hs7 _ _ hW hS ls (lv_sub hl [0, 1, 2, 3] rfl)
              · skip
                have c_8' : ¬ (kWiden nA j m3 8 j 12 = m3 8 j 12) := by simpa using c_8
                refine lv_iconst (v := 1) hx hb dX4_settleUnder_63 (by decide) ?_
                refine lv_istore_n (lv' := [(2, .int 1), (3, .int (nI j)), (1, .int (nI r)), (0, .ref (ad 0 0))]) hx hb dX4_settleUnder_64 rfl hl (by decide) rfl (fun ls hl => ?_)
                refine lv_iinc (v := nI (j + 1)) (lv' := [(3, .int (nI (j + 1))), (2, .int 1), (1, .int (nI r)), (0, .ref (ad 0 0))]) hx hb dX4_settleUnder_65 hl (k := 1) rfl (nI_1 j) (by decide) rfl (fun ls hl => ?_)
                refine lv_goto (tgt := 43) hx hb dX4_settleUnder_68 (by decide) ?_
                exact ih43 (j + 1) I7 true (by omega) (by subst eI7; first | exact hz43 | (rw [← hz43]; simp [kLoop, c_8, c_8']; done) | (rw [← hz43]; simp [kLoop, c_8, c_8']; rfl)) (fun hw => Bool.noConfusion hw) hs7 _ _ hW hS ls (lv_sub hl [0, 1, 2, 3] rfl)
          exact loop43 nA 0 m2 false (by omega) rfl (fun _ => rfl) hs_33 _ _ hW hS ls (lv_sub hl [0, 1, 2, 3] rfl)
      exact loop33 24 0 m1 (by omega) rfl hs_2 _ _ hW hS ls (lv_sub hl [0, 1] rfl)
    | succ d ih =>
      intro j m1 hi2 hz2 hs_2 H locs hW hS ls hl
      have hlt2 : j < nA := by omega
      have ih2 := ih
      refine lv_iload_n hx hb dX4_settleUnder_2 rfl (lv_at hl 0 rfl) ?_
      refine lv_aload_n hx hb dX4_settleUnder_3 rfl (lv_at hl 1 rfl) ?_
      refine w_get (v := .int (nI nA)) X hW 0 0 Nat.zero_lt_one rfl rfl inG4 4 (by decide) g53 (congrArg (fun z => some (Value.int z)) hs_2.1) dX4_settleUnder_4 ?_
      refine lv_icmp_ge (tgt := 31) hx hb dX4_settleUnder_7 (by decide) (fun c_9 => absurd c_9 (nI_ge (a := j) (b := nA) (by omega) (by omega))) (fun _ => ?_)
      refine lv_aload_n hx hb dX4_settleUnder_10 rfl (lv_at hl 1 rfl) ?_
      refine lv_iload_n hx hb dX4_settleUnder_11 rfl (lv_at hl 0 rfl) ?_
      refine w_cV1 X hS (m_X4_answerAt l G ad nA nK m1 J (nI j) hs_2) rfl rfl g99 g1 g96 g98 p1 hd_X4_answerAt ⟨Nat.le_of_ble_eq_true rfl, Nat.le_of_ble_eq_true rfl⟩ (k_rec X hW 0 0 Nat.zero_lt_one rfl rfl) hW hl.1 rfl (Nat.le_of_ble_eq_true rfl) dX4_settleUnder_12 (Nat.zero_le _) (Nat.zero_le _) (fun H locs hW hS => ?_)
      rw [kAns_lt (n := nA) (a := j) (by omega) (by omega)]
      refine lv_astore_n (lv' := [(2, .ref (ad 8 j)), (1, .int (nI j)), (0, .ref (ad 0 0))]) hx hb dX4_settleUnder_15 rfl hl (by decide) rfl (fun ls hl => ?_)
      refine lv_aload_n hx hb dX4_settleUnder_16 rfl (lv_at hl 0 rfl) ?_
      refine lv_ifnull hx hb dX4_settleUnder_17 ?_
      refine lv_aload_n hx hb dX4_settleUnder_20 rfl (lv_at hl 0 rfl) ?_
      refine lv_iconst (v := 0) hx hb dX4_settleUnder_21 (by decide) ?_
      refine w_puti X hW hS 8 j (show j < nA by omega) rfl rfl inG0 tyX0 tyX0_ok nmX0 12 (by decide) g209 rfl rfl rfl (Nat.le_of_ble_eq_true rfl) rfl dX4_settleUnder_22 (fun H locs hW hS => ?_)
      obtain ⟨I10, eI10⟩ : ∃ z, z = k_up m1 8 j (upd (m1 8 j) 12 0) := ⟨_, rfl⟩
      rw [← eI10] at hW
      have hs10 : k_S nA nK I10 := by rw [eI10]; exact hs_2.up 8 _ _ (by decide)
      refine lv_iinc (v := nI (j + 1)) (lv' := [(1, .int (nI (j + 1))), (2, .ref (ad 8 j)), (0, .ref (ad 0 0))]) hx hb dX4_settleUnder_25 hl (k := 1) rfl (nI_1 j) (by decide) rfl (fun ls hl => ?_)
      refine lv_goto (tgt := 2) hx hb dX4_settleUnder_28 (by decide) ?_
      exact ih2 (j + 1) I10 (by omega) (by subst eI10; first | exact hz2 | (rw [← hz2]; simp [kLoop]; done) | (rw [← hz2]; simp [kLoop]; rfl)) hs10 _ _ hW hS ls (lv_sub hl [0, 2] rfl)
  exact loop2 nA 0 I (by omega) rfl hs _ _ hW hS ls (lv_sub hl [0, 1] rfl)
set_option maxHeartbeats 4000000 in
set_option maxRecDepth 100000 in
theorem m_X0_clearGathered (l : Launch) (G : k_G) (ad : Nat → Nat → Nat) (nA nK : Nat) (I : k_I) (J : k_J) (i : Nat) (hi : i < nA) : k_Met l yX0_clearGathered cX0_clearGathered 2 none { frames := 1, cells := 0, slots := 0, locals := 20 } G [.ref (ad 8 i)] (Wd G ad nA nK I J) (none) (Wd G ad nA nK (kClr i I) (kClrJ i J)) 0 0 := by
  refine k_body (by decide) (Nat.le_of_ble_eq_true rfl) ?_
  intro p e s m below meth c ls X hr hlk hnm hW hS hl
  have hx := X.1.1
  have hb := X.1.2.1
  have hG := X.1.2.2.2.2
  have hl : lv_has ls 2 [(0, .ref (ad 8 i))] := hl
  refine lv_aload_n hx hb dX0_clearGathered_0 rfl (lv_at hl 0 rfl) ?_
  refine lv_lconst (v := 0) hx hb dX0_clearGathered_1 (by decide) ?_
  refine w_putl X hW hS 8 i hi rfl rfl inG0 tyX0 tyX0_ok nmX0 5 (by decide) g194 rfl rfl rfl (Nat.le_of_ble_eq_true rfl) rfl dX0_clearGathered_2 (fun H locs hW hS => ?_)
  obtain ⟨J1, eJ1⟩ : ∃ z, z = k_up J 8 i (vp_updL (J 8 i) 5 0) := ⟨_, rfl⟩
  rw [← eJ1] at hW
  refine lv_iconst (v := 0) hx hb dX0_clearGathered_5 (by decide) ?_
  refine lv_istore_n (lv' := [(1, .int 0), (0, .ref (ad 8 i))]) hx hb dX0_clearGathered_6 rfl hl (by decide) rfl (fun ls hl => ?_)
  have loop7 : ∀ (d j : Nat) (m1 : k_I), j + d = 3 → (kLoop (fun a I => k_up I 9 i (upd (I 9 i) a (kAllV (nI a)))) d j m1 = kClrS i I) → ∀ (H : Heap) (locs : List Loc), Wd G ad nA nK m1 J1 H → va_S (k_A G) s.heap H locs → ∀ ls : Array Slot, lv_has ls 2 [(1, .int (nI j)), (0, .ref (ad 8 i))] → W p l e { frames := 1, cells := 0, slots := 0, locals := 20 } s m ([.ref (ad 8 i)] : List Value).toArray below meth c H locs 0 0 (MQ below (k_Q G (none) (Wd G ad nA nK (kClr i I) (kClrJ i J))) ([.ref (ad 8 i)] : List Value).toArray s 0 0 (k_A G)) (F0 m 7 ls []) := by
    intro d
    induction d with
    | zero =>
      intro j m1 hi7 hz7  H locs hW hS ls hl
      have eIm1 : m1 = kClrS i I := hz7
      refine lv_iload_n hx hb dX0_clearGathered_7 rfl (lv_at hl 0 rfl) ?_
      refine lv_aload_n hx hb dX0_clearGathered_8 rfl (lv_at hl 1 rfl) ?_
      refine w_get X hW 8 i hi rfl rfl inG0 3 (by decide) g192 rfl dX0_clearGathered_9 ?_
      refine w_alen X hW 9 i hi rfl 0 rfl (v := 3) rfl dX0_clearGathered_12 ?_
      refine lv_icmp_ge (tgt := 32) hx hb dX0_clearGathered_13 (by decide) (fun _ => ?_) (fun c_2 => absurd (nI_le (a := 3) (b := j) (by omega) (by omega)) c_2)
      refine lv_aload_n hx hb dX0_clearGathered_32 rfl (lv_at hl 1 rfl) ?_
      refine lv_iconst (v := 0) hx hb dX0_clearGathered_33 (by decide) ?_
      refine w_puti X hW hS 8 i hi rfl rfl inG0 tyX0 tyX0_ok nmX0 6 (by decide) g196 rfl rfl rfl (Nat.le_of_ble_eq_true rfl) rfl dX0_clearGathered_34 (fun H locs hW hS => ?_)
      obtain ⟨I3, eI3⟩ : ∃ z, z = k_up m1 8 i (upd (m1 8 i) 6 0) := ⟨_, rfl⟩
      rw [← eI3] at hW
      refine lv_aload_n hx hb dX0_clearGathered_37 rfl (lv_at hl 1 rfl) ?_
      refine lv_iconst (v := 0) hx hb dX0_clearGathered_38 (by decide) ?_
      refine w_puti X hW hS 8 i hi rfl rfl inG0 tyX0 tyX0_ok nmX0 11 (by decide) g206 rfl rfl rfl (Nat.le_of_ble_eq_true rfl) rfl dX0_clearGathered_39 (fun H locs hW hS => ?_)
      obtain ⟨I4, eI4⟩ : ∃ z, z = k_up I3 8 i (upd (I3 8 i) 11 0) := ⟨_, rfl⟩
      rw [← eI4] at hW
      exact w_vret X hr hlk hS (hW.to (by first | rfl | (subst eI4 eI3 eIm1 eJ1; simp []; done) | (subst eI4 eI3 eIm1 eJ1; rfl) | (subst eI4 eI3 eIm1 eJ1; simp []; done) | (subst eI4 eI3 eIm1 eJ1; simp []; rfl) | (simp [eJ1, eIm1, eI3, eI4]; done)) (by first | rfl | (subst eI4 eI3 eIm1 eJ1; simp []; done) | (subst eI4 eI3 eIm1 eJ1; rfl) | (subst eI4 eI3 eIm1 eJ1; simp []; done) | (subst eI4 eI3 eIm1 eJ1; simp []; rfl) | (simp [eJ1, eIm1, eI3, eI4]; done))) dX0_clearGathered_42
    | succ d ih =>
      intro j m1 hi7 hz7  H locs hW hS ls hl
      have hlt7 : j < 3 := by omega
      have ih7 := ih
      refine lv_iload_n hx hb dX0_clearGathered_7 rfl (lv_at hl 0 rfl) ?_
      refine lv_aload_n hx hb dX0_clearGathered_8 rfl (lv_at hl 1 rfl) ?_
      refine w_get X hW 8 i hi rfl rfl inG0 3 (by decide) g192 rfl dX0_clearGathered_9 ?_
      refine w_alen X hW 9 i hi rfl 0 rfl (v := 3) rfl dX0_clearGathered_12 ?_
      refine lv_icmp_ge (tgt := 32) hx hb dX0_clearGathered_13 (by decide) (fun c_5 => absurd c_5 (nI_ge (a := j) (b := 3) (by omega) (by omega))) (fun _ => ?_)
      refine lv_aload_n hx hb dX0_clearGathered_16 rfl (lv_at hl 1 rfl) ?_
      refine w_get X hW 8 i hi rfl rfl inG0 3 (by decide) g192 rfl dX0_clearGathered_17 ?_
      refine lv_iload_n hx hb dX0_clearGathered_20 rfl (lv_at hl 0 rfl) ?_
      refine lv_iload_n hx hb dX0_clearGathered_21 rfl (lv_at hl 0 rfl) ?_
      refine w_cN1 X hS (m_X4_allValues l G (Wd G ad nA nK m1 J1) (nI j) ) rfl rfl g142 g1 X.2.2.2.2.1.2.2.1 g141 hd_X4_allValues ⟨Nat.le_of_ble_eq_true rfl, Nat.le_of_ble_eq_true rfl⟩ hW hl.1 rfl (Nat.le_of_ble_eq_true rfl) dX0_clearGathered_22 (Nat.zero_le _) (Nat.zero_le _) (fun H locs hW hS => ?_)
      refine w_iastN (i := j) X hW hS 9 i hi rfl (by omega) rfl dX0_clearGathered_25 (fun H locs hW hS => ?_)
      obtain ⟨I6, eI6⟩ : ∃ z, z = k_up m1 9 i (upd (m1 9 i) j (kAllV (nI j))) := ⟨_, rfl⟩
      rw [← eI6] at hW
      refine lv_iinc (v := nI (j + 1)) (lv' := [(1, .int (nI (j + 1))), (0, .ref (ad 8 i))]) hx hb dX0_clearGathered_26 hl (k := 0) rfl (nI_1 j) (by decide) rfl (fun ls hl => ?_)
      refine lv_goto (tgt := 7) hx hb dX0_clearGathered_29 (by decide) ?_
      exact ih7 (j + 1) I6 (by omega) (by subst eI6; first | exact hz7 | (rw [← hz7]; simp [kLoop]; done) | (rw [← hz7]; simp [kLoop]; rfl)) _ _ hW hS ls (lv_sub hl [0, 1] rfl)
  exact loop7 3 0 I (by omega) rfl _ _ hW hS ls (lv_sub hl [0, 1] rfl)
set_option maxHeartbeats 4000000 in
set_option maxRecDepth 100000 in
theorem m_X0_gather (l : Launch) (G : k_G) (ad : Nat → Nat → Nat) (nA nK : Nat) (I : k_I) (J : k_J) (i : Nat) (j : Nat) (hi : i < nA) (hj : j < nA) : k_Met l yX0_gather cX0_gather 3 none { frames := 1, cells := 0, slots := 0, locals := 21 } G [.ref (ad 8 i), .ref (ad 8 j)] (Wd G ad nA nK I J) (none) (Wd G ad nA nK (kGat i j I) (kGatJ i j J)) 0 0 := by
  refine k_body (by decide) (Nat.le_of_ble_eq_true rfl) ?_
  intro p e s m below meth c ls X hr hlk hnm hW hS hl
  have hx := X.1.1
  have hb := X.1.2.1
  have hG := X.1.2.2.2.2
  have hl : lv_has ls 3 [(0, .ref (ad 8 i)), (1, .ref (ad 8 j))] := hl
  refine lv_aload_n hx hb dX0_gather_0 rfl (lv_at hl 0 rfl) ?_
  refine lv_dup hx hb dX0_gather_1 rfl ?_
  refine w_get X hW 8 i hi rfl rfl inG0 5 (by decide) g194 rfl dX0_gather_2 ?_
  refine lv_aload_n hx hb dX0_gather_5 rfl (lv_at hl 1 rfl) ?_
  refine w_get X hW 8 j hj rfl rfl inG0 5 (by decide) g194 rfl dX0_gather_6 ?_
  refine lv_lor hx hb dX0_gather_9 ?_
  refine w_putl X hW hS 8 i hi rfl rfl inG0 tyX0 tyX0_ok nmX0 5 (by decide) g194 rfl rfl rfl (Nat.le_of_ble_eq_true rfl) rfl dX0_gather_10 (fun H locs hW hS => ?_)
  obtain ⟨J1, eJ1⟩ : ∃ z, z = k_up J 8 i (vp_updL (J 8 i) 5 ((J 8 i 5) ||| (J 8 j 5))) := ⟨_, rfl⟩
  rw [← eJ1] at hW
  refine lv_iconst (v := 0) hx hb dX0_gather_13 (by decide) ?_
  refine lv_istore_n (lv' := [(2, .int 0), (0, .ref (ad 8 i)), (1, .ref (ad 8 j))]) hx hb dX0_gather_14 rfl hl (by decide) rfl (fun ls hl => ?_)
  have loop15 : ∀ (d a : Nat) (m1 : k_I), a + d = 3 → (kLoop (fun a I => k_up I 9 i (upd (I 9 i) a (I 9 i a &&& kSet I j (nI a)))) d a m1 = kGatS i j I) → ∀ (H : Heap) (locs : List Loc), Wd G ad nA nK m1 J1 H → va_S (k_A G) s.heap H locs → ∀ ls : Array Slot, lv_has ls 3 [(2, .int (nI a)), (0, .ref (ad 8 i)), (1, .ref (ad 8 j))] → W p l e { frames := 1, cells := 0, slots := 0, locals := 21 } s m ([.ref (ad 8 i), .ref (ad 8 j)] : List Value).toArray below meth c H locs 0 0 (MQ below (k_Q G (none) (Wd G ad nA nK (kGat i j I) (kGatJ i j J))) ([.ref (ad 8 i), .ref (ad 8 j)] : List Value).toArray s 0 0 (k_A G)) (F0 m 15 ls []) := by
    intro d
    induction d with
    | zero =>
      intro a m1 hi15 hz15  H locs hW hS ls hl
      have eIm1 : m1 = kGatS i j I := hz15
      refine lv_iload_n hx hb dX0_gather_15 rfl (lv_at hl 0 rfl) ?_
      refine lv_aload_n hx hb dX0_gather_16 rfl (lv_at hl 1 rfl) ?_
      refine w_get X hW 8 i hi rfl rfl inG0 3 (by decide) g192 rfl dX0_gather_17 ?_
      refine w_alen X hW 9 i hi rfl 0 rfl (v := 3) rfl dX0_gather_20 ?_
      refine lv_icmp_ge (tgt := 44) hx hb dX0_gather_21 (by decide) (fun _ => ?_) (fun c_2 => absurd (nI_le (a := 3) (b := a) (by omega) (by omega)) c_2)
      refine lv_aload_n hx hb dX0_gather_44 rfl (lv_at hl 1 rfl) ?_
      refine lv_dup hx hb dX0_gather_45 rfl ?_
      refine w_get X hW 8 i hi rfl rfl inG0 6 (by decide) g196 rfl dX0_gather_46 ?_
      refine lv_aload_n hx hb dX0_gather_49 rfl (lv_at hl 2 rfl) ?_
      refine w_get X hW 8 j hj rfl rfl inG0 6 (by decide) g196 rfl dX0_gather_50 ?_
      refine lv_ior hx hb dX0_gather_53 ?_
      refine w_puti X hW hS 8 i hi rfl rfl inG0 tyX0 tyX0_ok nmX0 6 (by decide) g196 rfl rfl rfl (Nat.le_of_ble_eq_true rfl) rfl dX0_gather_54 (fun H locs hW hS => ?_)
      obtain ⟨I3, eI3⟩ : ∃ z, z = k_up m1 8 i (upd (m1 8 i) 6 ((m1 8 i 6) ||| (m1 8 j 6))) := ⟨_, rfl⟩
      rw [← eI3] at hW
      refine lv_aload_n hx hb dX0_gather_57 rfl (lv_at hl 1 rfl) ?_
      refine lv_aload_n hx hb dX0_gather_58 rfl (lv_at hl 1 rfl) ?_
      refine w_get X hW 8 i hi rfl rfl inG0 11 (by decide) g206 rfl dX0_gather_59 ?_
      refine lv_if_ne (tgt := 72) hx hb dX0_gather_62 (by decide) (fun c_4 => ?_) (fun c_4 => ?_)
      · skip
        refine lv_iconst (v := 1) hx hb dX0_gather_72 (by decide) ?_
        refine lv_goto (tgt := 77) hx hb dX0_gather_73 (by decide) ?_
        refine w_puti X hW hS 8 i hi rfl rfl inG0 tyX0 tyX0_ok nmX0 11 (by decide) g206 rfl rfl rfl (Nat.le_of_ble_eq_true rfl) rfl dX0_gather_77 (fun H locs hW hS => ?_)
        obtain ⟨I5, eI5⟩ : ∃ z, z = k_up I3 8 i (upd (I3 8 i) 11 1) := ⟨_, rfl⟩
        rw [← eI5] at hW
        exact w_vret X hr hlk hS (hW.to (by rw [eI5]; show _ = kGat2 i j (kGat1 i j (kGatS i j I)); rw [← eIm1, show kGat1 i j m1 = I3 from eI3.symm, kGat2]; simp [c_4]) (by first | rfl | (subst eJ1; rfl))) dX0_gather_80
      · skip
        refine lv_aload_n hx hb dX0_gather_65 rfl (lv_at hl 2 rfl) ?_
        refine w_get X hW 8 j hj rfl rfl inG0 11 (by decide) g206 rfl dX0_gather_66 ?_
        refine lv_if_eq (tgt := 76) hx hb dX0_gather_69 (by decide) (fun c_6 => ?_) (fun c_6 => ?_)
        · skip
          refine lv_iconst (v := 0) hx hb dX0_gather_76 (by decide) ?_
          refine w_puti X hW hS 8 i hi rfl rfl inG0 tyX0 tyX0_ok nmX0 11 (by decide) g206 rfl rfl rfl (Nat.le_of_ble_eq_true rfl) rfl dX0_gather_77 (fun H locs hW hS => ?_)
          obtain ⟨I7, eI7⟩ : ∃ z, z = k_up I3 8 i (upd (I3 8 i) 11 0) := ⟨_, rfl⟩
          rw [← eI7] at hW
          exact w_vret X hr hlk hS (hW.to (by rw [eI7]; show _ = kGat2 i j (kGat1 i j (kGatS i j I)); rw [← eIm1, show kGat1 i j m1 = I3 from eI3.symm, kGat2]; simp [c_4, c_6]) (by first | rfl | (subst eJ1; rfl))) dX0_gather_80
        · skip
          refine lv_iconst (v := 1) hx hb dX0_gather_72 (by decide) ?_
          refine lv_goto (tgt := 77) hx hb dX0_gather_73 (by decide) ?_
          refine w_puti X hW hS 8 i hi rfl rfl inG0 tyX0 tyX0_ok nmX0 11 (by decide) g206 rfl rfl rfl (Nat.le_of_ble_eq_true rfl) rfl dX0_gather_77 (fun H locs hW hS => ?_)
          obtain ⟨I8, eI8⟩ : ∃ z, z = k_up I3 8 i (upd (I3 8 i) 11 1) := ⟨_, rfl⟩
          rw [← eI8] at hW
          exact w_vret X hr hlk hS (hW.to (by rw [eI8]; show _ = kGat2 i j (kGat1 i j (kGatS i j I)); rw [← eIm1, show kGat1 i j m1 = I3 from eI3.symm, kGat2]; simp [c_4, c_6]) (by first | rfl | (subst eJ1; rfl))) dX0_gather_80
    | succ d ih =>
      intro a m1 hi15 hz15  H locs hW hS ls hl
      have hlt15 : a < 3 := by omega
      have ih15 := ih
      refine lv_iload_n hx hb dX0_gather_15 rfl (lv_at hl 0 rfl) ?_
      refine lv_aload_n hx hb dX0_gather_16 rfl (lv_at hl 1 rfl) ?_
      refine w_get X hW 8 i hi rfl rfl inG0 3 (by decide) g192 rfl dX0_gather_17 ?_
      refine w_alen X hW 9 i hi rfl 0 rfl (v := 3) rfl dX0_gather_20 ?_
      refine lv_icmp_ge (tgt := 44) hx hb dX0_gather_21 (by decide) (fun c_9 => absurd c_9 (nI_ge (a := a) (b := 3) (by omega) (by omega))) (fun _ => ?_)
      refine lv_aload_n hx hb dX0_gather_24 rfl (lv_at hl 1 rfl) ?_
      refine w_get X hW 8 i hi rfl rfl inG0 3 (by decide) g192 rfl dX0_gather_25 ?_
      refine lv_iload_n hx hb dX0_gather_28 rfl (lv_at hl 0 rfl) ?_
      refine lv_dup2_11 hx hb dX0_gather_29 rfl rfl ?_
      refine w_ialdN (i := a) X hW 9 i hi rfl (by omega) dX0_gather_30 ?_
      refine lv_aload_n hx hb dX0_gather_31 rfl (lv_at hl 2 rfl) ?_
      refine lv_iload_n hx hb dX0_gather_32 rfl (lv_at hl 0 rfl) ?_
      refine w_cV1 X hS (m_X0_setOf l G ad nA nK m1 J1 j (nI a) hj) rfl rfl g152 g5 g149 g150 g151 hd_X0_setOf ⟨Nat.le_of_ble_eq_true rfl, Nat.le_of_ble_eq_true rfl⟩ (k_rec X hW 8 j hj rfl rfl) hW hl.1 rfl (Nat.le_of_ble_eq_true rfl) dX0_gather_33 (Nat.zero_le _) (Nat.zero_le _) (fun H locs hW hS => ?_)
      refine lv_iand hx hb dX0_gather_36 ?_
      refine w_iastN (i := a) X hW hS 9 i hi rfl (by omega) rfl dX0_gather_37 (fun H locs hW hS => ?_)
      obtain ⟨I10, eI10⟩ : ∃ z, z = k_up m1 9 i (upd (m1 9 i) a ((m1 9 i a) &&& (kSet m1 j (nI a)))) := ⟨_, rfl⟩
      rw [← eI10] at hW
      refine lv_iinc (v := nI (a + 1)) (lv' := [(2, .int (nI (a + 1))), (0, .ref (ad 8 i)), (1, .ref (ad 8 j))]) hx hb dX0_gather_38 hl (k := 0) rfl (nI_1 a) (by decide) rfl (fun ls hl => ?_)
      refine lv_goto (tgt := 15) hx hb dX0_gather_41 (by decide) ?_
      exact ih15 (a + 1) I10 (by omega) (by subst eI10; first | exact hz15 | (rw [← hz15]; simp [kLoop]; done) | (rw [← hz15]; simp [kLoop]; rfl)) _ _ hW hS ls (lv_sub hl [0, 1, 2] rfl)
  exact loop15 3 0 I (by omega) rfl _ _ hW hS ls (lv_sub hl [0, 1, 2] rfl)
