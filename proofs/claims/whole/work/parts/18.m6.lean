set_option maxHeartbeats 4000000 in
set_option maxRecDepth 100000 in
theorem m_X4_settleJoined (l : Launch) (G : k_G) (ad : Nat → Nat → Nat) (nA nK : Nat) (I : k_I) (J : k_J) (i : Nat) (hi : i < nA) (hs : k_S nA nK I) : k_Met l yX4_settleJoined cX4_settleJoined 4 none { frames := 2, cells := 0, slots := 0, locals := 43 } G [.ref (ad 0 0), .ref (ad 8 i)] (Wd G ad nA nK I J) (none) (Wd G ad nA nK ((kSJ nA i (I, J)).1) ((kSJ nA i (I, J)).2)) 0 0 := by
  refine k_body (by decide) (Nat.le_of_ble_eq_true rfl) ?_
  intro p e s m below meth c ls X hr hlk hnm hW hS hl
  have hx := X.1.1
  have hb := X.1.2.1
  have hG := X.1.2.2.2.2
  have hA24 := hs.2.2.1
  have hK30 := hs.2.2.2.1
  have hl : lv_has ls 4 [(0, .ref (ad 0 0)), (1, .ref (ad 8 i))] := hl
  refine lv_aload_n hx hb dX4_settleJoined_0 rfl (lv_at hl 1 rfl) ?_
  refine lv_ifnull hx hb dX4_settleJoined_1 ?_
  refine lv_aload_n hx hb dX4_settleJoined_4 rfl (lv_at hl 1 rfl) ?_
  refine w_get X hW 8 i hi rfl rfl inG0 1 (by decide) g189 rfl dX4_settleJoined_5 ?_
  refine lv_iconst (v := 1) hx hb dX4_settleJoined_8 (by decide) ?_
  refine lv_icmp_eq (tgt := 13) hx hb dX4_settleJoined_9 (by decide) (fun c_1 => ?_) (fun c_1 => ?_)
  · skip
    refine lv_aload_n hx hb dX4_settleJoined_13 rfl (lv_at hl 1 rfl) ?_
    refine w_cVv X hS (m_X0_clearGathered l G ad nA nK I J i hi) rfl rfl g139 g5 g136 g137 g138 hd_X0_clearGathered ⟨Nat.le_of_ble_eq_true rfl, Nat.le_of_ble_eq_true rfl⟩ (k_rec X hW 8 i hi rfl rfl) hW hl.1 rfl (Nat.le_of_ble_eq_true rfl) dX4_settleJoined_14 (Nat.zero_le _) (Nat.zero_le _) (fun H locs hW hS => ?_)
    obtain ⟨I2, eI2⟩ : ∃ z, z = kClr i I := ⟨_, rfl⟩
    rw [← eI2] at hW
    have hs2 : k_S nA nK I2 := by rw [eI2]; exact (kClr_S hs)
    obtain ⟨J2, eJ2⟩ : ∃ z, z = kClrJ i J := ⟨_, rfl⟩
    rw [← eJ2] at hW
    refine lv_iconst (v := 0) hx hb dX4_settleJoined_17 (by decide) ?_
    refine lv_istore_n (lv' := [(2, .int 0), (0, .ref (ad 0 0)), (1, .ref (ad 8 i))]) hx hb dX4_settleJoined_18 rfl hl (by decide) rfl (fun ls hl => ?_)
    have loop19 : ∀ (d j : Nat) (m1 : k_I) (q1 : k_J), j + d = nA → (kLoop (kSJ1 i) d j (m1, q1) = kLoop (kSJ1 i) nA 0 (kClr i I, kClrJ i J)) → (k_S nA nK m1) → ∀ (H : Heap) (locs : List Loc), Wd G ad nA nK m1 q1 H → va_S (k_A G) s.heap H locs → ∀ ls : Array Slot, lv_has ls 4 [(2, .int (nI j)), (0, .ref (ad 0 0)), (1, .ref (ad 8 i))] → W p l e { frames := 2, cells := 0, slots := 0, locals := 43 } s m ([.ref (ad 0 0), .ref (ad 8 i)] : List Value).toArray below meth c H locs 0 0 (MQ below (k_Q G (none) (Wd G ad nA nK ((kSJ nA i (I, J)).1) ((kSJ nA i (I, J)).2))) ([.ref (ad 0 0), .ref (ad 8 i)] : List Value).toArray s 0 0 (k_A G)) (F0 m 19 ls []) := by
      intro d
      induction d with
      | zero =>
        intro j m1 q1 hi19 hz19 hs_19 H locs hW hS ls hl
        have eIm1 : m1 = (kLoop (kSJ1 i) nA 0 (kClr i I, kClrJ i J)).1 := congrArg Prod.fst hz19
        have eJq1 : q1 = (kLoop (kSJ1 i) nA 0 (kClr i I, kClrJ i J)).2 := congrArg Prod.snd hz19
        refine lv_iload_n hx hb dX4_settleJoined_19 rfl (lv_at hl 0 rfl) ?_
        refine lv_aload_n hx hb dX4_settleJoined_20 rfl (lv_at hl 1 rfl) ?_
        refine w_get (v := .int (nI nA)) X hW 0 0 Nat.zero_lt_one rfl rfl inG4 4 (by decide) g53 (congrArg (fun z => some (Value.int z)) hs_19.1) dX4_settleJoined_21 ?_
        refine lv_icmp_ge (tgt := 67) hx hb dX4_settleJoined_24 (by decide) (fun _ => ?_) (fun c_3 => absurd (nI_le (a := nA) (b := j) (by omega) (by omega)) c_3)
        refine lv_aload_n hx hb dX4_settleJoined_67 rfl (lv_at hl 2 rfl) ?_
        refine lv_aload_n hx hb dX4_settleJoined_68 rfl (lv_at hl 1 rfl) ?_
        refine w_get X hW 0 0 Nat.zero_lt_one rfl rfl inG4 0 (by decide) g49 rfl dX4_settleJoined_69 ?_
        refine lv_aload_n hx hb dX4_settleJoined_72 rfl (lv_at hl 2 rfl) ?_
        refine w_get X hW 8 i hi rfl rfl inG0 5 (by decide) g195 rfl dX4_settleJoined_73 ?_
        refine w_cV1 X hS (m_X2_folded l G ad nA nK m1 q1 (q1 8 i 5) ) rfl rfl g114 g2 g111 g112 g113 hd_X2_folded ⟨Nat.le_of_ble_eq_true rfl, Nat.le_of_ble_eq_true rfl⟩ (k_rec X hW 1 0 Nat.zero_lt_one rfl rfl) hW hl.1 rfl (Nat.le_of_ble_eq_true rfl) dX4_settleJoined_76 (Nat.zero_le _) (Nat.zero_le _) (fun H locs hW hS => ?_)
        refine w_putl X hW hS 8 i hi rfl rfl inG0 tyX0 tyX0_ok nmX0 10 (by decide) g205 rfl rfl rfl (Nat.le_of_ble_eq_true rfl) rfl dX4_settleJoined_79 (fun H locs hW hS => ?_)
        obtain ⟨J4, eJ4⟩ : ∃ z, z = k_up q1 8 i (vp_updL (q1 8 i) 10 (kFold (m1 2 0) (q1 8 i 5))) := ⟨_, rfl⟩
        rw [← eJ4] at hW
        exact w_vret X hr hlk hS (hW.to (by unfold kSJ; rw [if_pos c_1]; exact eIm1) (by unfold kSJ; rw [if_pos c_1, eJ4, eIm1, eJq1]; rfl)) dX4_settleJoined_82
      | succ d ih =>
        intro j m1 q1 hi19 hz19 hs_19 H locs hW hS ls hl
        have hlt19 : j < nA := by omega
        have ih19 := ih
        refine lv_iload_n hx hb dX4_settleJoined_19 rfl (lv_at hl 0 rfl) ?_
        refine lv_aload_n hx hb dX4_settleJoined_20 rfl (lv_at hl 1 rfl) ?_
        refine w_get (v := .int (nI nA)) X hW 0 0 Nat.zero_lt_one rfl rfl inG4 4 (by decide) g53 (congrArg (fun z => some (Value.int z)) hs_19.1) dX4_settleJoined_21 ?_
        refine lv_icmp_ge (tgt := 67) hx hb dX4_settleJoined_24 (by decide) (fun c_5 => absurd c_5 (nI_ge (a := j) (b := nA) (by omega) (by omega))) (fun _ => ?_)
        refine lv_aload_n hx hb dX4_settleJoined_27 rfl (lv_at hl 1 rfl) ?_
        refine lv_iload_n hx hb dX4_settleJoined_28 rfl (lv_at hl 0 rfl) ?_
        refine w_cV1 X hS (m_X4_answerAt l G ad nA nK m1 q1 (nI j) hs_19) rfl rfl g99 g1 g96 g98 p1 hd_X4_answerAt ⟨Nat.le_of_ble_eq_true rfl, Nat.le_of_ble_eq_true rfl⟩ (k_rec X hW 0 0 Nat.zero_lt_one rfl rfl) hW hl.1 rfl (Nat.le_of_ble_eq_true rfl) dX4_settleJoined_29 (Nat.zero_le _) (Nat.zero_le _) (fun H locs hW hS => ?_)
        rw [kAns_lt (n := nA) (a := j) (by omega) (by omega)]
        refine lv_astore_n (lv' := [(3, .ref (ad 8 j)), (2, .int (nI j)), (0, .ref (ad 0 0)), (1, .ref (ad 8 i))]) hx hb dX4_settleJoined_32 rfl hl (by decide) rfl (fun ls hl => ?_)
        refine lv_aload_n hx hb dX4_settleJoined_33 rfl (lv_at hl 0 rfl) ?_
        refine lv_ifnull hx hb dX4_settleJoined_34 ?_
        refine lv_aload_n hx hb dX4_settleJoined_37 rfl (lv_at hl 0 rfl) ?_
        refine w_get X hW 8 j (show j < nA by omega) rfl rfl inG0 1 (by decide) g189 rfl dX4_settleJoined_38 ?_
        refine lv_if_ne (tgt := 61) hx hb dX4_settleJoined_41 (by decide) (fun c_6 => ?_) (fun c_6 => ?_)
        · skip
          refine lv_iinc (v := nI (j + 1)) (lv' := [(2, .int (nI (j + 1))), (3, .ref (ad 8 j)), (0, .ref (ad 0 0)), (1, .ref (ad 8 i))]) hx hb dX4_settleJoined_61 hl (k := 1) rfl (nI_1 j) (by decide) rfl (fun ls hl => ?_)
          refine lv_goto (tgt := 19) hx hb dX4_settleJoined_64 (by decide) ?_
          exact ih19 (j + 1) m1 q1 (by omega) (by first | exact hz19 | (rw [← hz19]; simp [kLoop, kSJ1, c_1, c_6, eI2, eJ2]; done) | (simp [← hz19, kLoop, kSJ1, c_1, c_6, eI2, eJ2]; done) | (rw [← hz19]; simp only [kLoop, kSJ1, c_1, c_6, eI2, eJ2, eq_self, if_true, if_false, Bool.false_eq_true, decide_true, decide_false, Bool.not_true, Bool.not_false, Bool.false_or, Bool.true_or, Bool.and_true, Bool.true_and, Bool.false_and, Bool.and_false, Bool.or_true, Bool.or_false]; done) | (simp only [eI2, eJ2]; exact hz19)) hs_19 _ _ hW hS ls (lv_sub hl [0, 2, 3] rfl)
        · skip
          refine lv_aload_n hx hb dX4_settleJoined_44 rfl (lv_at hl 3 rfl) ?_
          refine w_get X hW 8 i hi rfl rfl inG0 12 (by decide) g209 rfl dX4_settleJoined_45 ?_
          refine lv_iload_n hx hb dX4_settleJoined_48 rfl (lv_at hl 1 rfl) ?_
          refine w_cS1 X hS (m_X4_bit l G (Wd G ad nA nK m1 q1) (nI j) ) rfl rfl g110 g1 g131 g109 hd_X4_bit ⟨Nat.le_of_ble_eq_true rfl, Nat.le_of_ble_eq_true rfl⟩ hW hl.1 rfl (Nat.le_of_ble_eq_true rfl) dX4_settleJoined_49 (Nat.zero_le _) (Nat.zero_le _) (fun H locs hW hS => ?_)
          refine lv_iand hx hb dX4_settleJoined_52 ?_
          refine lv_if_eq (tgt := 61) hx hb dX4_settleJoined_53 (by decide) (fun c_7 => ?_) (fun c_7 => ?_)
          · skip
            refine lv_iinc (v := nI (j + 1)) (lv' := [(2, .int (nI (j + 1))), (3, .ref (ad 8 j)), (0, .ref (ad 0 0)), (1, .ref (ad 8 i))]) hx hb dX4_settleJoined_61 hl (k := 1) rfl (nI_1 j) (by decide) rfl (fun ls hl => ?_)
            refine lv_goto (tgt := 19) hx hb dX4_settleJoined_64 (by decide) ?_
            exact ih19 (j + 1) m1 q1 (by omega) (by first | exact hz19 | (rw [← hz19]; simp [kLoop, kSJ1, c_1, c_6, c_7, eI2, eJ2]; done) | (simp [← hz19, kLoop, kSJ1, c_1, c_6, c_7, eI2, eJ2]; done) | (rw [← hz19]; simp only [kLoop, kSJ1, c_1, c_6, c_7, eI2, eJ2, eq_self, if_true, if_false, Bool.false_eq_true, decide_true, decide_false, Bool.not_true, Bool.not_false, Bool.false_or, Bool.true_or, Bool.and_true, Bool.true_and, Bool.false_and, Bool.and_false, Bool.or_true, Bool.or_false]; done) | (simp only [eI2, eJ2]; exact hz19)) hs_19 _ _ hW hS ls (lv_sub hl [0, 2, 3] rfl)
          · skip
            refine lv_aload_n hx hb dX4_settleJoined_56 rfl (lv_at hl 3 rfl) ?_
            refine lv_aload_n hx hb dX4_settleJoined_57 rfl (lv_at hl 0 rfl) ?_
            refine w_cVv X hS (m_X0_gather l G ad nA nK m1 q1 i j hi (show j < nA by omega)) rfl rfl g148 g5 g145 g146 g147 hd_X0_gather ⟨Nat.le_of_ble_eq_true rfl, Nat.le_of_ble_eq_true rfl⟩ (k_rec X hW 8 i hi rfl rfl) hW hl.1 rfl (Nat.le_of_ble_eq_true rfl) dX4_settleJoined_58 (Nat.zero_le _) (Nat.zero_le _) (fun H locs hW hS => ?_)
            obtain ⟨I8, eI8⟩ : ∃ z, z = kGat i j m1 := ⟨_, rfl⟩
            rw [← eI8] at hW
            have hs8 : k_S nA nK I8 := by rw [eI8]; exact (kGat_S hs_19)
            obtain ⟨J8, eJ8⟩ : ∃ z, z = kGatJ i j q1 := ⟨_, rfl⟩
            rw [← eJ8] at hW
            refine lv_iinc (v := nI (j + 1)) (lv' := [(2, .int (nI (j + 1))), (3, .ref (ad 8 j)), (0, .ref (ad 0 0)), (1, .ref (ad 8 i))]) hx hb dX4_settleJoined_61 hl (k := 1) rfl (nI_1 j) (by decide) rfl (fun ls hl => ?_)
            refine lv_goto (tgt := 19) hx hb dX4_settleJoined_64 (by decide) ?_
            exact ih19 (j + 1) I8 J8 (by omega) (by subst eJ8 eI8; first | exact hz19 | (rw [← hz19]; simp [kLoop, kSJ1, c_1, c_6, c_7]; done) | (rw [← hz19]; simp [kLoop, kSJ1, c_1, c_6, c_7]; rfl)) hs8 _ _ hW hS ls (lv_sub hl [0, 2, 3] rfl)
    exact loop19 nA 0 I2 J2 (by omega) (by simp only [eI2, eJ2]) hs2 _ _ hW hS ls (lv_sub hl [0, 1, 2] rfl)
  · skip
    exact w_vret X hr hlk hS (hW.to (by unfold kSJ; rw [if_neg c_1]) (by unfold kSJ; rw [if_neg c_1])) dX4_settleJoined_12
set_option maxHeartbeats 4000000 in
set_option maxRecDepth 100000 in
theorem m_X4_settle (l : Launch) (G : k_G) (ad : Nat → Nat → Nat) (nA nK : Nat) (I : k_I) (J : k_J) (hs : k_S nA nK I) : k_Met l yX4_settle cX4_settle 3 none { frames := 4, cells := 0, slots := 0, locals := 90 } G [.ref (ad 0 0)] (Wd G ad nA nK I J) (none) (Wd G ad nA nK ((kSettle nA nK (I, J)).1) ((kSettle nA nK (I, J)).2)) 0 0 := by
  refine k_body (by decide) (Nat.le_of_ble_eq_true rfl) ?_
  intro p e s m below meth c ls X hr hlk hnm hW hS hl
  have hx := X.1.1
  have hb := X.1.2.1
  have hG := X.1.2.2.2.2
  have hA24 := hs.2.2.1
  have hK30 := hs.2.2.2.1
  have hl : lv_has ls 3 [(0, .ref (ad 0 0))] := hl
  refine lv_iconst (v := 0) hx hb dX4_settle_0 (by decide) ?_
  refine lv_istore_n (lv' := [(1, .int 0), (0, .ref (ad 0 0))]) hx hb dX4_settle_1 rfl hl (by decide) rfl (fun ls hl => ?_)
  have loop2 : ∀ (d j : Nat) (m1 : k_I) (q1 : k_J), j + d = nA → (kLoop kSP d j (m1, q1) = kSt1 nA (I, J)) → (k_S nA nK m1) → ∀ (H : Heap) (locs : List Loc), Wd G ad nA nK m1 q1 H → va_S (k_A G) s.heap H locs → ∀ ls : Array Slot, lv_has ls 3 [(1, .int (nI j)), (0, .ref (ad 0 0))] → W p l e { frames := 4, cells := 0, slots := 0, locals := 90 } s m ([.ref (ad 0 0)] : List Value).toArray below meth c H locs 0 0 (MQ below (k_Q G (none) (Wd G ad nA nK ((kSettle nA nK (I, J)).1) ((kSettle nA nK (I, J)).2))) ([.ref (ad 0 0)] : List Value).toArray s 0 0 (k_A G)) (F0 m 2 ls []) := by
    intro d
    induction d with
    | zero =>
      intro j m1 q1 hi2 hz2 hs_2 H locs hW hS ls hl
      have eIm1 : m1 = (kSt1 nA (I, J)).1 := congrArg Prod.fst hz2
      have eJq1 : q1 = (kSt1 nA (I, J)).2 := congrArg Prod.snd hz2
      refine lv_iload_n hx hb dX4_settle_2 rfl (lv_at hl 0 rfl) ?_
      refine lv_aload_n hx hb dX4_settle_3 rfl (lv_at hl 1 rfl) ?_
      refine w_get (v := .int (nI nA)) X hW 0 0 Nat.zero_lt_one rfl rfl inG4 4 (by decide) g53 (congrArg (fun z => some (Value.int z)) hs_2.1) dX4_settle_4 ?_
      refine lv_icmp_ge (tgt := 25) hx hb dX4_settle_7 (by decide) (fun _ => ?_) (fun c_1 => absurd (nI_le (a := nA) (b := j) (by omega) (by omega)) c_1)
      refine lv_aload_n hx hb dX4_settle_25 rfl (lv_at hl 1 rfl) ?_
      refine w_cVv X hS (m_X4_settleUnder l G ad nA nK m1 q1  hs_2) rfl rfl g118 g1 g115 g117 p3 hd_X4_settleUnder ⟨Nat.le_of_ble_eq_true rfl, Nat.le_of_ble_eq_true rfl⟩ (k_rec X hW 0 0 Nat.zero_lt_one rfl rfl) hW hl.1 rfl (Nat.le_of_ble_eq_true rfl) dX4_settle_26 (Nat.zero_le _) (Nat.zero_le _) (fun H locs hW hS => ?_)
      obtain ⟨I2, eI2⟩ : ∃ z, z = kUnd nA m1 := ⟨_, rfl⟩
      rw [← eI2] at hW
      have hs2 : k_S nA nK I2 := by rw [eI2]; exact (kUnd_S hs_2)
      refine lv_iconst (v := 0) hx hb dX4_settle_29 (by decide) ?_
      refine lv_istore_n (lv' := [(1, .int 0), (0, .ref (ad 0 0))]) hx hb dX4_settle_30 rfl hl (by decide) rfl (fun ls hl => ?_)
      have loop31 : ∀ (d j : Nat) (m2 : k_I) (q2 : k_J), j + d = nA → (kLoop (kSJ nA) d j (m2, q2) = kSt2 nA (kSt1 nA (I, J))) → (k_S nA nK m2) → ∀ (H : Heap) (locs : List Loc), Wd G ad nA nK m2 q2 H → va_S (k_A G) s.heap H locs → ∀ ls : Array Slot, lv_has ls 3 [(1, .int (nI j)), (0, .ref (ad 0 0))] → W p l e { frames := 4, cells := 0, slots := 0, locals := 90 } s m ([.ref (ad 0 0)] : List Value).toArray below meth c H locs 0 0 (MQ below (k_Q G (none) (Wd G ad nA nK ((kSettle nA nK (I, J)).1) ((kSettle nA nK (I, J)).2))) ([.ref (ad 0 0)] : List Value).toArray s 0 0 (k_A G)) (F0 m 31 ls []) := by
        intro d
        induction d with
        | zero =>
          intro j m2 q2 hi31 hz31 hs_31 H locs hW hS ls hl
          have eIm2 : m2 = (kSt2 nA (kSt1 nA (I, J))).1 := congrArg Prod.fst hz31
          have eJq2 : q2 = (kSt2 nA (kSt1 nA (I, J))).2 := congrArg Prod.snd hz31
          refine lv_iload_n hx hb dX4_settle_31 rfl (lv_at hl 0 rfl) ?_
          refine lv_aload_n hx hb dX4_settle_32 rfl (lv_at hl 1 rfl) ?_
          refine w_get (v := .int (nI nA)) X hW 0 0 Nat.zero_lt_one rfl rfl inG4 4 (by decide) g53 (congrArg (fun z => some (Value.int z)) hs_31.1) dX4_settle_33 ?_
          refine lv_icmp_ge (tgt := 54) hx hb dX4_settle_36 (by decide) (fun _ => ?_) (fun c_3 => absurd (nI_le (a := nA) (b := j) (by omega) (by omega)) c_3)
          refine lv_iconst (v := 0) hx hb dX4_settle_54 (by decide) ?_
          refine lv_istore_n (lv' := [(1, .int 0), (0, .ref (ad 0 0))]) hx hb dX4_settle_55 rfl hl (by decide) rfl (fun ls hl => ?_)
          have loop56 : ∀ (d j : Nat) (q3 : k_J), j + d = nK → (kLoop (fun k J => k_up J 11 k (vp_updL (J 11 k) 2 (kFold (m2 2 0) (J 11 k 0)))) d j q3 = kAskF nK m2 q2) → ∀ (H : Heap) (locs : List Loc), Wd G ad nA nK m2 q3 H → va_S (k_A G) s.heap H locs → ∀ ls : Array Slot, lv_has ls 3 [(1, .int (nI j)), (0, .ref (ad 0 0))] → W p l e { frames := 4, cells := 0, slots := 0, locals := 90 } s m ([.ref (ad 0 0)] : List Value).toArray below meth c H locs 0 0 (MQ below (k_Q G (none) (Wd G ad nA nK ((kSettle nA nK (I, J)).1) ((kSettle nA nK (I, J)).2))) ([.ref (ad 0 0)] : List Value).toArray s 0 0 (k_A G)) (F0 m 56 ls []) := by
            intro d
            induction d with
            | zero =>
              intro j q3 hi56 hz56  H locs hW hS ls hl
              have eJq3 : q3 = kAskF nK m2 q2 := hz56
              refine lv_iload_n hx hb dX4_settle_56 rfl (lv_at hl 0 rfl) ?_
              refine lv_aload_n hx hb dX4_settle_57 rfl (lv_at hl 1 rfl) ?_
              refine w_get (v := .int (nI nK)) X hW 0 0 Nat.zero_lt_one rfl rfl inG4 5 (by decide) g54 (congrArg (fun z => some (Value.int z)) hs_31.2.1) dX4_settle_58 ?_
              refine lv_icmp_ge (tgt := 95) hx hb dX4_settle_61 (by decide) (fun _ => ?_) (fun c_4 => absurd (nI_le (a := nK) (b := j) (by omega) (by omega)) c_4)
              exact w_vret X hr hlk hS (hW.to (by exact eIm2) (by rw [eJq3, eIm2, eJq2]; rfl)) dX4_settle_95
            | succ d ih =>
              intro j q3 hi56 hz56  H locs hW hS ls hl
              have hlt56 : j < nK := by omega
              have ih56 := ih
              refine lv_iload_n hx hb dX4_settle_56 rfl (lv_at hl 0 rfl) ?_
              refine lv_aload_n hx hb dX4_settle_57 rfl (lv_at hl 1 rfl) ?_
              refine w_get (v := .int (nI nK)) X hW 0 0 Nat.zero_lt_one rfl rfl inG4 5 (by decide) g54 (congrArg (fun z => some (Value.int z)) hs_31.2.1) dX4_settle_58 ?_
              refine lv_icmp_ge (tgt := 95) hx hb dX4_settle_61 (by decide) (fun c_5 => absurd c_5 (nI_ge (a := j) (b := nK) (by omega) (by omega))) (fun _ => ?_)
              refine lv_aload_n hx hb dX4_settle_64 rfl (lv_at hl 1 rfl) ?_
              refine lv_iload_n hx hb dX4_settle_65 rfl (lv_at hl 0 rfl) ?_
              refine w_cV1 X hS (m_X4_askAt l G ad nA nK m2 q3 (nI j) hs_31) rfl rfl g156 g1 g153 g155 p7 hd_X4_askAt ⟨Nat.le_of_ble_eq_true rfl, Nat.le_of_ble_eq_true rfl⟩ (k_rec X hW 0 0 Nat.zero_lt_one rfl rfl) hW hl.1 rfl (Nat.le_of_ble_eq_true rfl) dX4_settle_66 (Nat.zero_le _) (Nat.zero_le _) (fun H locs hW hS => ?_)
              rw [kAns_lt (n := nK) (a := j) (by omega) (by omega)]
              refine lv_astore_n (lv' := [(2, .ref (ad 11 j)), (1, .int (nI j)), (0, .ref (ad 0 0))]) hx hb dX4_settle_69 rfl hl (by decide) rfl (fun ls hl => ?_)
              refine lv_aload_n hx hb dX4_settle_70 rfl (lv_at hl 0 rfl) ?_
              refine lv_ifnull hx hb dX4_settle_71 ?_
              refine lv_aload_n hx hb dX4_settle_74 rfl (lv_at hl 0 rfl) ?_
              refine lv_aload_n hx hb dX4_settle_75 rfl (lv_at hl 2 rfl) ?_
              refine w_get X hW 0 0 Nat.zero_lt_one rfl rfl inG4 0 (by decide) g49 rfl dX4_settle_76 ?_
              refine lv_aload_n hx hb dX4_settle_79 rfl (lv_at hl 0 rfl) ?_
              refine w_get X hW 11 j (show j < nK by omega) rfl rfl inG1 0 (by decide) g449 rfl dX4_settle_80 ?_
              refine w_cV1 X hS (m_X2_folded l G ad nA nK m2 q3 (q3 11 j 0) ) rfl rfl g114 g2 g111 g112 g113 hd_X2_folded ⟨Nat.le_of_ble_eq_true rfl, Nat.le_of_ble_eq_true rfl⟩ (k_rec X hW 1 0 Nat.zero_lt_one rfl rfl) hW hl.1 rfl (Nat.le_of_ble_eq_true rfl) dX4_settle_83 (Nat.zero_le _) (Nat.zero_le _) (fun H locs hW hS => ?_)
              refine w_putl X hW hS 11 j (show j < nK by omega) rfl rfl inG1 tyX1 tyX1_ok nmX1 2 (by decide) g452 rfl rfl rfl (Nat.le_of_ble_eq_true rfl) rfl dX4_settle_86 (fun H locs hW hS => ?_)
              obtain ⟨J6, eJ6⟩ : ∃ z, z = k_up q3 11 j (vp_updL (q3 11 j) 2 (kFold (m2 2 0) (q3 11 j 0))) := ⟨_, rfl⟩
              rw [← eJ6] at hW
              refine lv_iinc (v := nI (j + 1)) (lv' := [(1, .int (nI (j + 1))), (2, .ref (ad 11 j)), (0, .ref (ad 0 0))]) hx hb dX4_settle_89 hl (k := 1) rfl (nI_1 j) (by decide) rfl (fun ls hl => ?_)
              refine lv_goto (tgt := 56) hx hb dX4_settle_92 (by decide) ?_
              exact ih56 (j + 1) J6 (by omega) (by subst eJ6; first | exact hz56 | (rw [← hz56]; simp []; done) | (rw [← hz56]; simp []; rfl)) _ _ hW hS ls (lv_sub hl [0, 2] rfl)
          exact loop56 nK 0 q2 (by omega) rfl _ _ hW hS ls (lv_sub hl [0, 1] rfl)
        | succ d ih =>
          intro j m2 q2 hi31 hz31 hs_31 H locs hW hS ls hl
          have hlt31 : j < nA := by omega
          have ih31 := ih
          refine lv_iload_n hx hb dX4_settle_31 rfl (lv_at hl 0 rfl) ?_
          refine lv_aload_n hx hb dX4_settle_32 rfl (lv_at hl 1 rfl) ?_
          refine w_get (v := .int (nI nA)) X hW 0 0 Nat.zero_lt_one rfl rfl inG4 4 (by decide) g53 (congrArg (fun z => some (Value.int z)) hs_31.1) dX4_settle_33 ?_
          refine lv_icmp_ge (tgt := 54) hx hb dX4_settle_36 (by decide) (fun c_7 => absurd c_7 (nI_ge (a := j) (b := nA) (by omega) (by omega))) (fun _ => ?_)
          refine lv_aload_n hx hb dX4_settle_39 rfl (lv_at hl 1 rfl) ?_
          refine lv_aload_n hx hb dX4_settle_40 rfl (lv_at hl 1 rfl) ?_
          refine lv_iload_n hx hb dX4_settle_41 rfl (lv_at hl 0 rfl) ?_
          refine w_cV1 X hS (m_X4_answerAt l G ad nA nK m2 q2 (nI j) hs_31) rfl rfl g99 g1 g96 g98 p1 hd_X4_answerAt ⟨Nat.le_of_ble_eq_true rfl, Nat.le_of_ble_eq_true rfl⟩ (k_rec X hW 0 0 Nat.zero_lt_one rfl rfl) hW hl.1 rfl (Nat.le_of_ble_eq_true rfl) dX4_settle_42 (Nat.zero_le _) (Nat.zero_le _) (fun H locs hW hS => ?_)
          rw [kAns_lt (n := nA) (a := j) (by omega) (by omega)]
          refine w_cVv X hS (m_X4_settleJoined l G ad nA nK m2 q2 j (show j < nA by omega) hs_31) rfl rfl g135 g1 g132 g134 p6 hd_X4_settleJoined ⟨Nat.le_of_ble_eq_true rfl, Nat.le_of_ble_eq_true rfl⟩ (k_rec X hW 0 0 Nat.zero_lt_one rfl rfl) hW hl.1 rfl (Nat.le_of_ble_eq_true rfl) dX4_settle_45 (Nat.zero_le _) (Nat.zero_le _) (fun H locs hW hS => ?_)
          obtain ⟨I8, eI8⟩ : ∃ z, z = (kSJ nA j (m2, q2)).1 := ⟨_, rfl⟩
          rw [← eI8] at hW
          have hs8 : k_S nA nK I8 := by rw [eI8]; exact (kSJ_S (s := (m2, q2)) hs_31)
          obtain ⟨J8, eJ8⟩ : ∃ z, z = (kSJ nA j (m2, q2)).2 := ⟨_, rfl⟩
          rw [← eJ8] at hW
          refine lv_iinc (v := nI (j + 1)) (lv' := [(1, .int (nI (j + 1))), (0, .ref (ad 0 0))]) hx hb dX4_settle_48 hl (k := 0) rfl (nI_1 j) (by decide) rfl (fun ls hl => ?_)
          refine lv_goto (tgt := 31) hx hb dX4_settle_51 (by decide) ?_
          exact ih31 (j + 1) I8 J8 (by omega) (by subst eJ8 eI8; first | exact hz31 | (rw [← hz31]; simp []; done) | (rw [← hz31]; simp []; rfl)) hs8 _ _ hW hS ls (lv_sub hl [0, 1] rfl)
      exact loop31 nA 0 I2 q1 (by omega) (by rw [eI2, eIm1, eJq1]; rfl) hs2 _ _ hW hS ls (lv_sub hl [0, 1] rfl)
    | succ d ih =>
      intro j m1 q1 hi2 hz2 hs_2 H locs hW hS ls hl
      have hlt2 : j < nA := by omega
      have ih2 := ih
      refine lv_iload_n hx hb dX4_settle_2 rfl (lv_at hl 0 rfl) ?_
      refine lv_aload_n hx hb dX4_settle_3 rfl (lv_at hl 1 rfl) ?_
      refine w_get (v := .int (nI nA)) X hW 0 0 Nat.zero_lt_one rfl rfl inG4 4 (by decide) g53 (congrArg (fun z => some (Value.int z)) hs_2.1) dX4_settle_4 ?_
      refine lv_icmp_ge (tgt := 25) hx hb dX4_settle_7 (by decide) (fun c_9 => absurd c_9 (nI_ge (a := j) (b := nA) (by omega) (by omega))) (fun _ => ?_)
      refine lv_aload_n hx hb dX4_settle_10 rfl (lv_at hl 1 rfl) ?_
      refine lv_aload_n hx hb dX4_settle_11 rfl (lv_at hl 1 rfl) ?_
      refine lv_iload_n hx hb dX4_settle_12 rfl (lv_at hl 0 rfl) ?_
      refine w_cV1 X hS (m_X4_answerAt l G ad nA nK m1 q1 (nI j) hs_2) rfl rfl g99 g1 g96 g98 p1 hd_X4_answerAt ⟨Nat.le_of_ble_eq_true rfl, Nat.le_of_ble_eq_true rfl⟩ (k_rec X hW 0 0 Nat.zero_lt_one rfl rfl) hW hl.1 rfl (Nat.le_of_ble_eq_true rfl) dX4_settle_13 (Nat.zero_le _) (Nat.zero_le _) (fun H locs hW hS => ?_)
      rw [kAns_lt (n := nA) (a := j) (by omega) (by omega)]
      refine w_cVv X hS (m_X4_settlePlain l G ad nA nK m1 q1 j (show j < nA by omega) hs_2) rfl rfl g103 g1 g100 g102 p2 hd_X4_settlePlain ⟨Nat.le_of_ble_eq_true rfl, Nat.le_of_ble_eq_true rfl⟩ (k_rec X hW 0 0 Nat.zero_lt_one rfl rfl) hW hl.1 rfl (Nat.le_of_ble_eq_true rfl) dX4_settle_16 (Nat.zero_le _) (Nat.zero_le _) (fun H locs hW hS => ?_)
      obtain ⟨I10, eI10⟩ : ∃ z, z = (kSP j (m1, q1)).1 := ⟨_, rfl⟩
      rw [← eI10] at hW
      have hs10 : k_S nA nK I10 := by rw [eI10]; exact (kSP_S (s := (m1, q1)) hs_2)
      obtain ⟨J10, eJ10⟩ : ∃ z, z = (kSP j (m1, q1)).2 := ⟨_, rfl⟩
      rw [← eJ10] at hW
      refine lv_iinc (v := nI (j + 1)) (lv' := [(1, .int (nI (j + 1))), (0, .ref (ad 0 0))]) hx hb dX4_settle_19 hl (k := 0) rfl (nI_1 j) (by decide) rfl (fun ls hl => ?_)
      refine lv_goto (tgt := 2) hx hb dX4_settle_22 (by decide) ?_
      exact ih2 (j + 1) I10 J10 (by omega) (by subst eJ10 eI10; first | exact hz2 | (rw [← hz2]; simp []; done) | (rw [← hz2]; simp []; rfl)) hs10 _ _ hW hS ls (lv_sub hl [0, 1] rfl)
  exact loop2 nA 0 I J (by omega) rfl hs _ _ hW hS ls (lv_sub hl [0, 1] rfl)
set_option maxHeartbeats 4000000 in
set_option maxRecDepth 100000 in
theorem m_X4_leadOn (l : Launch) (G : k_G) (ad : Nat → Nat → Nat) (nA nK : Nat) (I : k_I) (J : k_J) (a : Int32) (t : Int32) (hs : k_S nA nK I) : k_Met l yX4_leadOn cX4_leadOn 5 none { frames := 1, cells := 0, slots := 0, locals := 21 } G [.ref (ad 0 0), .int a, .int t] (Wd G ad nA nK I J) (none) (Wd G ad nA nK (kLead nA a t I) J) 0 0 := by
  refine k_body (by decide) (Nat.le_of_ble_eq_true rfl) ?_
  intro p e s m below meth c ls X hr hlk hnm hW hS hl
  have hx := X.1.1
  have hb := X.1.2.1
  have hG := X.1.2.2.2.2
  have hA24 := hs.2.2.1
  have hK30 := hs.2.2.2.1
  have hl : lv_has ls 5 [(0, .ref (ad 0 0)), (1, .int a), (2, .int t)] := hl
  refine lv_iconst (v := 0) hx hb dX4_leadOn_0 (by decide) ?_
  refine lv_istore_n (lv' := [(3, .int 0), (0, .ref (ad 0 0)), (1, .int a), (2, .int t)]) hx hb dX4_leadOn_1 rfl hl (by decide) rfl (fun ls hl => ?_)
  have loop2 : ∀ (d j : Nat) (m1 : k_I), j + d = nA → (kLoop (fun b I => if I 8 b 9 = a then k_up I 8 b (upd (I 8 b) 9 t) else I) d j m1 = kLead nA a t I) → (k_S nA nK m1) → ∀ (H : Heap) (locs : List Loc), Wd G ad nA nK m1 J H → va_S (k_A G) s.heap H locs → ∀ ls : Array Slot, lv_has ls 5 [(3, .int (nI j)), (0, .ref (ad 0 0)), (1, .int a), (2, .int t)] → W p l e { frames := 1, cells := 0, slots := 0, locals := 21 } s m ([.ref (ad 0 0), .int a, .int t] : List Value).toArray below meth c H locs 0 0 (MQ below (k_Q G (none) (Wd G ad nA nK (kLead nA a t I) J)) ([.ref (ad 0 0), .int a, .int t] : List Value).toArray s 0 0 (k_A G)) (F0 m 2 ls []) := by
    intro d
    induction d with
    | zero =>
      intro j m1 hi2 hz2 hs_2 H locs hW hS ls hl
      have eIm1 : m1 = kLead nA a t I := hz2
      refine lv_iload_n hx hb dX4_leadOn_2 rfl (lv_at hl 0 rfl) ?_
      refine lv_aload_n hx hb dX4_leadOn_3 rfl (lv_at hl 1 rfl) ?_
      refine w_get (v := .int (nI nA)) X hW 0 0 Nat.zero_lt_one rfl rfl inG4 4 (by decide) g53 (congrArg (fun z => some (Value.int z)) hs_2.1) dX4_leadOn_4 ?_
      refine lv_icmp_ge (tgt := 43) hx hb dX4_leadOn_7 (by decide) (fun _ => ?_) (fun c_1 => absurd (nI_le (a := nA) (b := j) (by omega) (by omega)) c_1)
      exact w_vret X hr hlk hS (hW.to (by first | rfl | (subst eIm1; simp []; done) | (subst eIm1; rfl) | (subst eIm1; simp []; done) | (subst eIm1; simp []; rfl) | (simp [eIm1]; done)) rfl) dX4_leadOn_43
    | succ d ih =>
      intro j m1 hi2 hz2 hs_2 H locs hW hS ls hl
      have hlt2 : j < nA := by omega
      have ih2 := ih
      refine lv_iload_n hx hb dX4_leadOn_2 rfl (lv_at hl 0 rfl) ?_
      refine lv_aload_n hx hb dX4_leadOn_3 rfl (lv_at hl 1 rfl) ?_
      refine w_get (v := .int (nI nA)) X hW 0 0 Nat.zero_lt_one rfl rfl inG4 4 (by decide) g53 (congrArg (fun z => some (Value.int z)) hs_2.1) dX4_leadOn_4 ?_
      refine lv_icmp_ge (tgt := 43) hx hb dX4_leadOn_7 (by decide) (fun c_2 => absurd c_2 (nI_ge (a := j) (b := nA) (by omega) (by omega))) (fun _ => ?_)
      refine lv_aload_n hx hb dX4_leadOn_10 rfl (lv_at hl 1 rfl) ?_
      refine lv_iload_n hx hb dX4_leadOn_11 rfl (lv_at hl 0 rfl) ?_
      refine w_cV1 X hS (m_X4_answerAt l G ad nA nK m1 J (nI j) hs_2) rfl rfl g99 g1 g96 g98 p1 hd_X4_answerAt ⟨Nat.le_of_ble_eq_true rfl, Nat.le_of_ble_eq_true rfl⟩ (k_rec X hW 0 0 Nat.zero_lt_one rfl rfl) hW hl.1 rfl (Nat.le_of_ble_eq_true rfl) dX4_leadOn_12 (Nat.zero_le _) (Nat.zero_le _) (fun H locs hW hS => ?_)
      rw [kAns_lt (n := nA) (a := j) (by omega) (by omega)]
      refine lv_astore (lv' := [(4, .ref (ad 8 j)), (3, .int (nI j)), (0, .ref (ad 0 0)), (1, .int a), (2, .int t)]) hx hb dX4_leadOn_15 hl (by decide) rfl (fun ls hl => ?_)
      refine lv_aload hx hb dX4_leadOn_17 (lv_at hl 0 rfl) ?_
      refine lv_ifnull hx hb dX4_leadOn_19 ?_
      refine lv_aload hx hb dX4_leadOn_22 (lv_at hl 0 rfl) ?_
      refine w_get X hW 8 j (show j < nA by omega) rfl rfl inG0 9 (by decide) g203 rfl dX4_leadOn_24 ?_
      refine lv_iload_n hx hb dX4_leadOn_27 rfl (lv_at hl 3 rfl) ?_
      refine lv_icmp_ne (tgt := 37) hx hb dX4_leadOn_28 (by decide) (fun c_3 => ?_) (fun c_3 => ?_)
      · skip
        refine lv_iinc (v := nI (j + 1)) (lv' := [(3, .int (nI (j + 1))), (4, .ref (ad 8 j)), (0, .ref (ad 0 0)), (1, .int a), (2, .int t)]) hx hb dX4_leadOn_37 hl (k := 1) rfl (nI_1 j) (by decide) rfl (fun ls hl => ?_)
        refine lv_goto (tgt := 2) hx hb dX4_leadOn_40 (by decide) ?_
        exact ih2 (j + 1) m1 (by omega) (by first | exact hz2 | (rw [← hz2]; simp [kLoop, c_3]; done) | (simp [← hz2, kLoop, c_3]; done) | (rw [← hz2]; simp only [kLoop, c_3, eq_self, if_true, if_false, Bool.false_eq_true, decide_true, decide_false, Bool.not_true, Bool.not_false, Bool.false_or, Bool.true_or, Bool.and_true, Bool.true_and, Bool.false_and, Bool.and_false, Bool.or_true, Bool.or_false]; done)) hs_2 _ _ hW hS ls (lv_sub hl [0, 2, 3, 4] rfl)
      · skip
        refine lv_aload hx hb dX4_leadOn_31 (lv_at hl 0 rfl) ?_
        refine lv_iload_n hx hb dX4_leadOn_33 rfl (lv_at hl 4 rfl) ?_
        refine w_puti X hW hS 8 j (show j < nA by omega) rfl rfl inG0 tyX0 tyX0_ok nmX0 9 (by decide) g203 rfl rfl rfl (Nat.le_of_ble_eq_true rfl) rfl dX4_leadOn_34 (fun H locs hW hS => ?_)
        obtain ⟨I4, eI4⟩ : ∃ z, z = k_up m1 8 j (upd (m1 8 j) 9 t) := ⟨_, rfl⟩
        rw [← eI4] at hW
        have hs4 : k_S nA nK I4 := by rw [eI4]; exact hs_2.up 8 _ _ (by decide)
        refine lv_iinc (v := nI (j + 1)) (lv' := [(3, .int (nI (j + 1))), (4, .ref (ad 8 j)), (0, .ref (ad 0 0)), (1, .int a), (2, .int t)]) hx hb dX4_leadOn_37 hl (k := 1) rfl (nI_1 j) (by decide) rfl (fun ls hl => ?_)
        refine lv_goto (tgt := 2) hx hb dX4_leadOn_40 (by decide) ?_
        exact ih2 (j + 1) I4 (by omega) (by subst eI4; first | exact hz2 | (rw [← hz2]; simp [kLoop, c_3]; done) | (rw [← hz2]; simp [kLoop, c_3]; rfl)) hs4 _ _ hW hS ls (lv_sub hl [0, 2, 3, 4] rfl)
  exact loop2 nA 0 I (by omega) rfl hs _ _ hW hS ls (lv_sub hl [0, 1, 2, 3] rfl)
set_option maxHeartbeats 4000000 in
set_option maxRecDepth 100000 in
theorem m_X0_takeAllOf (l : Launch) (G : k_G) (ad : Nat → Nat → Nat) (nA nK : Nat) (I : k_I) (J : k_J) (i : Nat) (j : Nat) (hi : i < nA) (hj : j < nA) : k_Met l yX0_takeAllOf cX0_takeAllOf 3 none { frames := 1, cells := 0, slots := 0, locals := 21 } G [.ref (ad 8 i), .ref (ad 8 j)] (Wd G ad nA nK I J) (none) (Wd G ad nA nK (kTak i j I) (kGatJ i j J)) 0 0 := by
  refine k_body (by decide) (Nat.le_of_ble_eq_true rfl) ?_
  intro p e s m below meth c ls X hr hlk hnm hW hS hl
  have hx := X.1.1
  have hb := X.1.2.1
  have hG := X.1.2.2.2.2
  have hl : lv_has ls 3 [(0, .ref (ad 8 i)), (1, .ref (ad 8 j))] := hl
  refine lv_aload_n hx hb dX0_takeAllOf_0 rfl (lv_at hl 0 rfl) ?_
  refine lv_dup hx hb dX0_takeAllOf_1 rfl ?_
  refine w_get X hW 8 i hi rfl rfl inG0 5 (by decide) g194 rfl dX0_takeAllOf_2 ?_
  refine lv_aload_n hx hb dX0_takeAllOf_5 rfl (lv_at hl 1 rfl) ?_
  refine w_get X hW 8 j hj rfl rfl inG0 5 (by decide) g194 rfl dX0_takeAllOf_6 ?_
  refine lv_lor hx hb dX0_takeAllOf_9 ?_
  refine w_putl X hW hS 8 i hi rfl rfl inG0 tyX0 tyX0_ok nmX0 5 (by decide) g194 rfl rfl rfl (Nat.le_of_ble_eq_true rfl) rfl dX0_takeAllOf_10 (fun H locs hW hS => ?_)
  obtain ⟨J1, eJ1⟩ : ∃ z, z = k_up J 8 i (vp_updL (J 8 i) 5 ((J 8 i 5) ||| (J 8 j 5))) := ⟨_, rfl⟩
  rw [← eJ1] at hW
  refine lv_iconst (v := 0) hx hb dX0_takeAllOf_13 (by decide) ?_
  refine lv_istore_n (lv' := [(2, .int 0), (0, .ref (ad 8 i)), (1, .ref (ad 8 j))]) hx hb dX0_takeAllOf_14 rfl hl (by decide) rfl (fun ls hl => ?_)
  have loop15 : ∀ (d a : Nat) (m1 : k_I), a + d = 3 → (kLoop (fun a I => k_up I 9 i (upd (I 9 i) a (I 9 i a ||| kSet I j (nI a)))) d a m1 = kTakS i j I) → ∀ (H : Heap) (locs : List Loc), Wd G ad nA nK m1 J1 H → va_S (k_A G) s.heap H locs → ∀ ls : Array Slot, lv_has ls 3 [(2, .int (nI a)), (0, .ref (ad 8 i)), (1, .ref (ad 8 j))] → W p l e { frames := 1, cells := 0, slots := 0, locals := 21 } s m ([.ref (ad 8 i), .ref (ad 8 j)] : List Value).toArray below meth c H locs 0 0 (MQ below (k_Q G (none) (Wd G ad nA nK (kTak i j I) (kGatJ i j J))) ([.ref (ad 8 i), .ref (ad 8 j)] : List Value).toArray s 0 0 (k_A G)) (F0 m 15 ls []) := by
    intro d
    induction d with
    | zero =>
      intro a m1 hi15 hz15  H locs hW hS ls hl
      have eIm1 : m1 = kTakS i j I := hz15
      refine lv_iload_n hx hb dX0_takeAllOf_15 rfl (lv_at hl 0 rfl) ?_
      refine lv_aload_n hx hb dX0_takeAllOf_16 rfl (lv_at hl 1 rfl) ?_
      refine w_get X hW 8 i hi rfl rfl inG0 3 (by decide) g192 rfl dX0_takeAllOf_17 ?_
      refine w_alen X hW 9 i hi rfl 0 rfl (v := 3) rfl dX0_takeAllOf_20 ?_
      refine lv_icmp_ge (tgt := 44) hx hb dX0_takeAllOf_21 (by decide) (fun _ => ?_) (fun c_2 => absurd (nI_le (a := 3) (b := a) (by omega) (by omega)) c_2)
      refine lv_aload_n hx hb dX0_takeAllOf_44 rfl (lv_at hl 1 rfl) ?_
      refine lv_dup hx hb dX0_takeAllOf_45 rfl ?_
      refine w_get X hW 8 i hi rfl rfl inG0 6 (by decide) g196 rfl dX0_takeAllOf_46 ?_
      refine lv_aload_n hx hb dX0_takeAllOf_49 rfl (lv_at hl 2 rfl) ?_
      refine w_get X hW 8 j hj rfl rfl inG0 6 (by decide) g196 rfl dX0_takeAllOf_50 ?_
      refine lv_ior hx hb dX0_takeAllOf_53 ?_
      refine w_puti X hW hS 8 i hi rfl rfl inG0 tyX0 tyX0_ok nmX0 6 (by decide) g196 rfl rfl rfl (Nat.le_of_ble_eq_true rfl) rfl dX0_takeAllOf_54 (fun H locs hW hS => ?_)
      obtain ⟨I3, eI3⟩ : ∃ z, z = k_up m1 8 i (upd (m1 8 i) 6 ((m1 8 i 6) ||| (m1 8 j 6))) := ⟨_, rfl⟩
      rw [← eI3] at hW
      refine lv_aload_n hx hb dX0_takeAllOf_57 rfl (lv_at hl 1 rfl) ?_
      refine lv_aload_n hx hb dX0_takeAllOf_58 rfl (lv_at hl 1 rfl) ?_
      refine w_get X hW 8 i hi rfl rfl inG0 7 (by decide) g198 rfl dX0_takeAllOf_59 ?_
      refine lv_aload_n hx hb dX0_takeAllOf_62 rfl (lv_at hl 2 rfl) ?_
      refine w_get X hW 8 j hj rfl rfl inG0 7 (by decide) g198 rfl dX0_takeAllOf_63 ?_
      refine va_mmin hx hb (X.1.2.2.1.trans hl.1.symm) X.1.2.2.2.1 (hG _ g318) (hG _ g319) (hG _ g7) (hG _ g320) (Nat.le_of_ble_eq_true rfl) (Nat.le_of_ble_eq_true rfl) (Nat.zero_le _) (Nat.zero_le _) dX0_takeAllOf_66 ?_
      refine w_puti X hW hS 8 i hi rfl rfl inG0 tyX0 tyX0_ok nmX0 7 (by decide) g198 rfl rfl rfl (Nat.le_of_ble_eq_true rfl) rfl dX0_takeAllOf_69 (fun H locs hW hS => ?_)
      obtain ⟨I4, eI4⟩ : ∃ z, z = k_up I3 8 i (upd (I3 8 i) 7 (if I3 8 j 7 < I3 8 i 7 then I3 8 j 7 else I3 8 i 7)) := ⟨_, rfl⟩
      rw [← eI4] at hW
      refine lv_aload_n hx hb dX0_takeAllOf_72 rfl (lv_at hl 1 rfl) ?_
      refine lv_dup hx hb dX0_takeAllOf_73 rfl ?_
      refine w_get X hW 8 i hi rfl rfl inG0 8 (by decide) g200 rfl dX0_takeAllOf_74 ?_
      refine lv_aload_n hx hb dX0_takeAllOf_77 rfl (lv_at hl 2 rfl) ?_
      refine w_get X hW 8 j hj rfl rfl inG0 8 (by decide) g200 rfl dX0_takeAllOf_78 ?_
      refine lv_iadd hx hb dX0_takeAllOf_81 ?_
      refine w_puti X hW hS 8 i hi rfl rfl inG0 tyX0 tyX0_ok nmX0 8 (by decide) g200 rfl rfl rfl (Nat.le_of_ble_eq_true rfl) rfl dX0_takeAllOf_82 (fun H locs hW hS => ?_)
      obtain ⟨I5, eI5⟩ : ∃ z, z = k_up I4 8 i (upd (I4 8 i) 8 ((I4 8 i 8) + (I4 8 j 8))) := ⟨_, rfl⟩
      rw [← eI5] at hW
      exact w_vret X hr hlk hS (hW.to (by first | rfl | (subst eI5 eI4 eI3 eIm1 eJ1; simp []; done) | (subst eI5 eI4 eI3 eIm1 eJ1; rfl) | (subst eI5 eI4 eI3 eIm1 eJ1; simp []; done) | (subst eI5 eI4 eI3 eIm1 eJ1; simp []; rfl) | (simp [eJ1, eIm1, eI3, eI4, eI5]; done)) (by first | rfl | (subst eI5 eI4 eI3 eIm1 eJ1; simp []; done) | (subst eI5 eI4 eI3 eIm1 eJ1; rfl) | (subst eI5 eI4 eI3 eIm1 eJ1; simp []; done) | (subst eI5 eI4 eI3 eIm1 eJ1; simp []; rfl) | (simp [eJ1, eIm1, eI3, eI4, eI5]; done))) dX0_takeAllOf_85
    | succ d ih =>
      intro a m1 hi15 hz15  H locs hW hS ls hl
      have hlt15 : a < 3 := by omega
      have ih15 := ih
      refine lv_iload_n hx hb dX0_takeAllOf_15 rfl (lv_at hl 0 rfl) ?_
      refine lv_aload_n hx hb dX0_takeAllOf_16 rfl (lv_at hl 1 rfl) ?_
      refine w_get X hW 8 i hi rfl rfl inG0 3 (by decide) g192 rfl dX0_takeAllOf_17 ?_
      refine w_alen X hW 9 i hi rfl 0 rfl (v := 3) rfl dX0_takeAllOf_20 ?_
      refine lv_icmp_ge (tgt := 44) hx hb dX0_takeAllOf_21 (by decide) (fun c_6 => absurd c_6 (nI_ge (a := a) (b := 3) (by omega) (by omega))) (fun _ => ?_)
      refine lv_aload_n hx hb dX0_takeAllOf_24 rfl (lv_at hl 1 rfl) ?_
      refine w_get X hW 8 i hi rfl rfl inG0 3 (by decide) g192 rfl dX0_takeAllOf_25 ?_
      refine lv_iload_n hx hb dX0_takeAllOf_28 rfl (lv_at hl 0 rfl) ?_
      refine lv_dup2_11 hx hb dX0_takeAllOf_29 rfl rfl ?_
      refine w_ialdN (i := a) X hW 9 i hi rfl (by omega) dX0_takeAllOf_30 ?_
      refine lv_aload_n hx hb dX0_takeAllOf_31 rfl (lv_at hl 2 rfl) ?_
      refine lv_iload_n hx hb dX0_takeAllOf_32 rfl (lv_at hl 0 rfl) ?_
      refine w_cV1 X hS (m_X0_setOf l G ad nA nK m1 J1 j (nI a) hj) rfl rfl g152 g5 g149 g150 g151 hd_X0_setOf ⟨Nat.le_of_ble_eq_true rfl, Nat.le_of_ble_eq_true rfl⟩ (k_rec X hW 8 j hj rfl rfl) hW hl.1 rfl (Nat.le_of_ble_eq_true rfl) dX0_takeAllOf_33 (Nat.zero_le _) (Nat.zero_le _) (fun H locs hW hS => ?_)
      refine lv_ior hx hb dX0_takeAllOf_36 ?_
      refine w_iastN (i := a) X hW hS 9 i hi rfl (by omega) rfl dX0_takeAllOf_37 (fun H locs hW hS => ?_)
      obtain ⟨I7, eI7⟩ : ∃ z, z = k_up m1 9 i (upd (m1 9 i) a ((m1 9 i a) ||| (kSet m1 j (nI a)))) := ⟨_, rfl⟩
      rw [← eI7] at hW
      refine lv_iinc (v := nI (a + 1)) (lv' := [(2, .int (nI (a + 1))), (0, .ref (ad 8 i)), (1, .ref (ad 8 j))]) hx hb dX0_takeAllOf_38 hl (k := 0) rfl (nI_1 a) (by decide) rfl (fun ls hl => ?_)
      refine lv_goto (tgt := 15) hx hb dX0_takeAllOf_41 (by decide) ?_
      exact ih15 (a + 1) I7 (by omega) (by subst eI7; first | exact hz15 | (rw [← hz15]; simp [kLoop]; done) | (rw [← hz15]; simp [kLoop]; rfl)) _ _ hW hS ls (lv_sub hl [0, 1, 2] rfl)
  exact loop15 3 0 I (by omega) rfl _ _ hW hS ls (lv_sub hl [0, 1, 2] rfl)
set_option maxHeartbeats 4000000 in
set_option maxRecDepth 100000 in
theorem m_X3_change (l : Launch) (G : k_G) (ad : Nat → Nat → Nat) (nA nK : Nat) (I : k_I) (J : k_J) (x : Int32) : k_Met l yX3_change cX3_change 2 (some FieldType.int) { frames := 0, cells := 0, slots := 0, locals := 0 } G [.ref (ad 3 0), .int x] (Wd G ad nA nK I J) (some (.int (kChangeV I x))) (Wd G ad nA nK (kChange I x) J) 0 0 := by
  refine k_body (by decide) (Nat.le_of_ble_eq_true rfl) ?_
  intro p e s m below meth c ls X hr hlk hnm hW hS hl
  have hx := X.1.1
  have hb := X.1.2.1
  have hG := X.1.2.2.2.2
  have hl : lv_has ls 2 [(0, .ref (ad 3 0)), (1, .int x)] := hl
  refine lv_iload_n hx hb dX3_change_0 rfl (lv_at hl 1 rfl) ?_
  refine lv_if_lt (tgt := 22) hx hb dX3_change_1 (by decide) (fun c_1 => ?_) (fun c_1 => ?_)
  · skip
    refine lv_sipush (v := (-1001)) hx hb dX3_change_22 (by decide) ?_
    exact w_iret X hr hlk hS (by first | rfl | (simp [kChangeV, kChange, c_1]; done) | (simp [kChangeV, kChange, c_1]; rfl)) (hW.to (by first | rfl | (simp [kChangeV, kChange, c_1]; done)) rfl) dX3_change_25
  · skip
    refine lv_iload_n hx hb dX3_change_4 rfl (lv_at hl 1 rfl) ?_
    refine lv_aload_n hx hb dX3_change_5 rfl (lv_at hl 0 rfl) ?_
    refine w_get X hW 3 0 Nat.zero_lt_one rfl rfl inG3 0 (by decide) g35 rfl dX3_change_6 ?_
    refine w_alen X hW 4 0 Nat.zero_lt_one rfl 0 rfl (v := 10) rfl dX3_change_9 ?_
    refine lv_icmp_ge (tgt := 22) hx hb dX3_change_10 (by decide) (fun c_2 => ?_) (fun c_2 => ?_)
    · skip
      refine lv_sipush (v := (-1001)) hx hb dX3_change_22 (by decide) ?_
      exact w_iret X hr hlk hS (by first | rfl | (simp [kChangeV, kChange, c_1, c_2]; done) | (simp [kChangeV, kChange, c_1, c_2]; rfl)) (hW.to (by first | rfl | (simp [kChangeV, kChange, c_1, c_2]; done)) rfl) dX3_change_25
    · skip
      refine lv_iload_n hx hb dX3_change_13 rfl (lv_at hl 1 rfl) ?_
      refine lv_aload_n hx hb dX3_change_14 rfl (lv_at hl 0 rfl) ?_
      refine w_get X hW 3 0 Nat.zero_lt_one rfl rfl inG3 1 (by decide) g36 rfl dX3_change_15 ?_
      refine w_alen X hW 5 0 Nat.zero_lt_one rfl 0 rfl (v := 10) rfl dX3_change_18 ?_
      refine lv_icmp_lt (tgt := 26) hx hb dX3_change_19 (by decide) (fun c_3 => ?_) (fun c_3 => absurd (Int32.not_le.mp c_2) c_3)
      refine lv_aload_n hx hb dX3_change_26 rfl (lv_at hl 0 rfl) ?_
      refine lv_dup hx hb dX3_change_27 rfl ?_
      refine w_get X hW 3 0 Nat.zero_lt_one rfl rfl inG3 2 (by decide) g37 rfl dX3_change_28 ?_
      refine lv_iconst (v := 1) hx hb dX3_change_31 (by decide) ?_
      refine lv_iadd hx hb dX3_change_32 ?_
      refine w_puti X hW hS 3 0 Nat.zero_lt_one rfl rfl inG3 tyX3 tyX3_ok nmX3 2 (by decide) g37 rfl rfl rfl (Nat.le_of_ble_eq_true rfl) rfl dX3_change_33 (fun H locs hW hS => ?_)
      obtain ⟨I4, eI4⟩ : ∃ z, z = k_up I 3 0 (upd (I 3 0) 2 ((I 3 0 2) + 1)) := ⟨_, rfl⟩
      rw [← eI4] at hW
      refine lv_aload_n hx hb dX3_change_36 rfl (lv_at hl 0 rfl) ?_
      refine w_get X hW 3 0 Nat.zero_lt_one rfl rfl inG3 1 (by decide) g36 rfl dX3_change_37 ?_
      refine lv_iload_n hx hb dX3_change_40 rfl (lv_at hl 1 rfl) ?_
      refine lv_aload_n hx hb dX3_change_41 rfl (lv_at hl 0 rfl) ?_
      refine w_get X hW 3 0 Nat.zero_lt_one rfl rfl inG3 2 (by decide) g37 rfl dX3_change_42 ?_
      refine w_iast X hW hS 5 0 Nat.zero_lt_one rfl (k_in_a c_1 c_2 rfl) rfl dX3_change_45 (fun H locs hW hS => ?_)
      obtain ⟨I5, eI5⟩ : ∃ z, z = k_up I4 5 0 (upd (I4 5 0) ((x).toNatClampNeg) (I4 3 0 2)) := ⟨_, rfl⟩
      rw [← eI5] at hW
      refine lv_aload_n hx hb dX3_change_46 rfl (lv_at hl 0 rfl) ?_
      refine w_get X hW 3 0 Nat.zero_lt_one rfl rfl inG3 0 (by decide) g35 rfl dX3_change_47 ?_
      refine lv_iload_n hx hb dX3_change_50 rfl (lv_at hl 1 rfl) ?_
      refine lv_dup2_11 hx hb dX3_change_51 rfl rfl ?_
      refine w_iald X hW 4 0 Nat.zero_lt_one rfl (k_in_a c_1 c_2 rfl) dX3_change_52 ?_
      refine lv_iconst (v := 1) hx hb dX3_change_53 (by decide) ?_
      refine lv_iadd hx hb dX3_change_54 ?_
      refine w_iast X hW hS 4 0 Nat.zero_lt_one rfl (k_in_a c_1 c_2 rfl) rfl dX3_change_55 (fun H locs hW hS => ?_)
      obtain ⟨I6, eI6⟩ : ∃ z, z = k_up I5 4 0 (upd (I5 4 0) ((x).toNatClampNeg) ((I5 4 0 (x).toNatClampNeg) + 1)) := ⟨_, rfl⟩
      rw [← eI6] at hW
      refine lv_aload_n hx hb dX3_change_56 rfl (lv_at hl 0 rfl) ?_
      refine w_get X hW 3 0 Nat.zero_lt_one rfl rfl inG3 0 (by decide) g35 rfl dX3_change_57 ?_
      refine lv_iload_n hx hb dX3_change_60 rfl (lv_at hl 1 rfl) ?_
      refine w_iald X hW 4 0 Nat.zero_lt_one rfl (k_in_a c_1 c_2 rfl) dX3_change_61 ?_
      exact w_iret X hr hlk hS (by simp only [kChangeV, kChange, c_1, c_2, if_false]; subst eI6 eI5 eI4; rfl) (hW.to (by simp only [kChange, c_1, c_2, if_false]; subst eI6 eI5 eI4; rfl) rfl) dX3_change_62
set_option maxHeartbeats 4000000 in
set_option maxRecDepth 100000 in
theorem m_X0_putSets (l : Launch) (G : k_G) (ad : Nat → Nat → Nat) (nA nK : Nat) (I : k_I) (J : k_J) (i : Nat) (a : Int32) (b : Int32) (c9 : Int32) (hi : i < nA) : k_Met l yX0_putSets cX0_putSets 5 none { frames := 0, cells := 0, slots := 0, locals := 0 } G [.ref (ad 8 i), .int a, .int b, .int c9] (Wd G ad nA nK I J) (none) (Wd G ad nA nK (kPutS i a b c9 I) J) 0 0 := by
  refine k_body (by decide) (Nat.le_of_ble_eq_true rfl) ?_
  intro p e s m below meth c ls X hr hlk hnm hW hS hl
  have hx := X.1.1
  have hb := X.1.2.1
  have hG := X.1.2.2.2.2
  have hl : lv_has ls 5 [(0, .ref (ad 8 i)), (1, .int a), (2, .int b), (3, .int c9)] := hl
  refine lv_iconst (v := 0) hx hb dX0_putSets_0 (by decide) ?_
  refine lv_istore (lv' := [(4, .int 0), (0, .ref (ad 8 i)), (1, .int a), (2, .int b), (3, .int c9)]) hx hb dX0_putSets_1 hl (by decide) rfl (fun ls hl => ?_)
  have loop3 : ∀ (d k : Nat) (m1 : k_I), k + d = 3 → (kLoop (fun k I => k_up I 9 i (upd (I 9 i) k (if nI k = 0 then a else if nI k = 1 then b else c9))) d k m1 = kPutS i a b c9 I) → ∀ (H : Heap) (locs : List Loc), Wd G ad nA nK m1 J H → va_S (k_A G) s.heap H locs → ∀ ls : Array Slot, lv_has ls 5 [(4, .int (nI k)), (0, .ref (ad 8 i)), (1, .int a), (2, .int b), (3, .int c9)] → W p l e { frames := 0, cells := 0, slots := 0, locals := 0 } s m ([.ref (ad 8 i), .int a, .int b, .int c9] : List Value).toArray below meth c H locs 0 0 (MQ below (k_Q G (none) (Wd G ad nA nK (kPutS i a b c9 I) J)) ([.ref (ad 8 i), .int a, .int b, .int c9] : List Value).toArray s 0 0 (k_A G)) (F0 m 3 ls []) := by
    intro d
    induction d with
    | zero =>
      intro k m1 hi3 hz3  H locs hW hS ls hl
      have eIm1 : m1 = kPutS i a b c9 I := hz3
      refine lv_iload hx hb dX0_putSets_3 (lv_at hl 0 rfl) ?_
      refine lv_aload_n hx hb dX0_putSets_5 rfl (lv_at hl 1 rfl) ?_
      refine w_get X hW 8 i hi rfl rfl inG0 3 (by decide) g192 rfl dX0_putSets_6 ?_
      refine w_alen X hW 9 i hi rfl 0 rfl (v := 3) rfl dX0_putSets_9 ?_
      refine lv_icmp_ge (tgt := 46) hx hb dX0_putSets_10 (by decide) (fun _ => ?_) (fun c_1 => absurd (nI_le (a := 3) (b := k) (by omega) (by omega)) c_1)
      exact w_vret X hr hlk hS (hW.to (by first | rfl | (subst eIm1; simp []; done) | (subst eIm1; rfl) | (subst eIm1; simp []; done) | (subst eIm1; simp []; rfl) | (simp [eIm1]; done)) rfl) dX0_putSets_46
    | succ d ih =>
      intro k m1 hi3 hz3  H locs hW hS ls hl
      have hlt3 : k < 3 := by omega
      have ih3 := ih
      refine lv_iload hx hb dX0_putSets_3 (lv_at hl 0 rfl) ?_
      refine lv_aload_n hx hb dX0_putSets_5 rfl (lv_at hl 1 rfl) ?_
      refine w_get X hW 8 i hi rfl rfl inG0 3 (by decide) g192 rfl dX0_putSets_6 ?_
      refine w_alen X hW 9 i hi rfl 0 rfl (v := 3) rfl dX0_putSets_9 ?_
      refine lv_icmp_ge (tgt := 46) hx hb dX0_putSets_10 (by decide) (fun c_2 => absurd c_2 (nI_ge (a := k) (b := 3) (by omega) (by omega))) (fun _ => ?_)
      refine lv_aload_n hx hb dX0_putSets_13 rfl (lv_at hl 1 rfl) ?_
      refine w_get X hW 8 i hi rfl rfl inG0 3 (by decide) g192 rfl dX0_putSets_14 ?_
      refine lv_iload hx hb dX0_putSets_17 (lv_at hl 0 rfl) ?_
      refine lv_iload hx hb dX0_putSets_19 (lv_at hl 0 rfl) ?_
      refine lv_if_ne (tgt := 28) hx hb dX0_putSets_21 (by decide) (fun c_3 => ?_) (fun c_3 => ?_)
      · skip
        refine lv_iload hx hb dX0_putSets_28 (lv_at hl 0 rfl) ?_
        refine lv_iconst (v := 1) hx hb dX0_putSets_30 (by decide) ?_
        refine lv_icmp_ne (tgt := 38) hx hb dX0_putSets_31 (by decide) (fun c_4 => ?_) (fun c_4 => ?_)
        · skip
          refine lv_iload_n hx hb dX0_putSets_38 rfl (lv_at hl 4 rfl) ?_
          refine w_iastN (i := k) X hW hS 9 i hi rfl (by omega) rfl dX0_putSets_39 (fun H locs hW hS => ?_)
          obtain ⟨I5, eI5⟩ : ∃ z, z = k_up m1 9 i (upd (m1 9 i) k c9) := ⟨_, rfl⟩
          rw [← eI5] at hW
          refine lv_iinc (v := nI (k + 1)) (lv' := [(4, .int (nI (k + 1))), (0, .ref (ad 8 i)), (1, .int a), (2, .int b), (3, .int c9)]) hx hb dX0_putSets_40 hl (k := 0) rfl (nI_1 k) (by decide) rfl (fun ls hl => ?_)
          refine lv_goto (tgt := 3) hx hb dX0_putSets_43 (by decide) ?_
          exact ih3 (k + 1) I5 (by omega) (by subst eI5; first | exact hz3 | (rw [← hz3]; simp [kLoop, c_3, c_4]; done) | (rw [← hz3]; simp [kLoop, c_3, c_4]; rfl)) _ _ hW hS ls (lv_sub hl [0, 1, 2, 3, 4] rfl)
        · skip
          refine lv_iload_n hx hb dX0_putSets_34 rfl (lv_at hl 3 rfl) ?_
          refine lv_goto (tgt := 39) hx hb dX0_putSets_35 (by decide) ?_
          refine w_iastN (i := k) X hW hS 9 i hi rfl (by omega) rfl dX0_putSets_39 (fun H locs hW hS => ?_)
          obtain ⟨I6, eI6⟩ : ∃ z, z = k_up m1 9 i (upd (m1 9 i) k b) := ⟨_, rfl⟩
          rw [← eI6] at hW
          refine lv_iinc (v := nI (k + 1)) (lv' := [(4, .int (nI (k + 1))), (0, .ref (ad 8 i)), (1, .int a), (2, .int b), (3, .int c9)]) hx hb dX0_putSets_40 hl (k := 0) rfl (nI_1 k) (by decide) rfl (fun ls hl => ?_)
          refine lv_goto (tgt := 3) hx hb dX0_putSets_43 (by decide) ?_
          exact ih3 (k + 1) I6 (by omega) (by subst eI6; first | exact hz3 | (rw [← hz3]; simp [kLoop, c_3, c_4]; done) | (rw [← hz3]; simp [kLoop, c_3, c_4]; rfl)) _ _ hW hS ls (lv_sub hl [0, 1, 2, 3, 4] rfl)
      · skip
        refine lv_iload_n hx hb dX0_putSets_24 rfl (lv_at hl 2 rfl) ?_
        refine lv_goto (tgt := 39) hx hb dX0_putSets_25 (by decide) ?_
        refine w_iastN (i := k) X hW hS 9 i hi rfl (by omega) rfl dX0_putSets_39 (fun H locs hW hS => ?_)
        obtain ⟨I7, eI7⟩ : ∃ z, z = k_up m1 9 i (upd (m1 9 i) k a) := ⟨_, rfl⟩
        rw [← eI7] at hW
        refine lv_iinc (v := nI (k + 1)) (lv' := [(4, .int (nI (k + 1))), (0, .ref (ad 8 i)), (1, .int a), (2, .int b), (3, .int c9)]) hx hb dX0_putSets_40 hl (k := 0) rfl (nI_1 k) (by decide) rfl (fun ls hl => ?_)
        refine lv_goto (tgt := 3) hx hb dX0_putSets_43 (by decide) ?_
        exact ih3 (k + 1) I7 (by omega) (by subst eI7; first | exact hz3 | (rw [← hz3]; simp [kLoop, c_3]; done) | (rw [← hz3]; simp [kLoop, c_3]; rfl)) _ _ hW hS ls (lv_sub hl [0, 1, 2, 3, 4] rfl)
  exact loop3 3 0 I (by omega) rfl _ _ hW hS ls (lv_sub hl [0, 1, 2, 3, 4] rfl)
set_option maxHeartbeats 4000000 in
set_option maxRecDepth 100000 in
theorem m_X0_putParts (l : Launch) (G : k_G) (ad : Nat → Nat → Nat) (nA nK : Nat) (I : k_I) (J : k_J) (i : Nat) (a : Int32) (b : Int32) (c9 : Int32) (d9 : Int32) (hi : i < nA) : k_Met l yX0_putParts cX0_putParts 6 none { frames := 0, cells := 0, slots := 0, locals := 0 } G [.ref (ad 8 i), .int a, .int b, .int c9, .int d9] (Wd G ad nA nK I J) (none) (Wd G ad nA nK (kPutP i a b c9 d9 I) J) 0 0 := by
  refine k_body (by decide) (Nat.le_of_ble_eq_true rfl) ?_
  intro p e s m below meth c ls X hr hlk hnm hW hS hl
  have hx := X.1.1
  have hb := X.1.2.1
  have hG := X.1.2.2.2.2
  have hl : lv_has ls 6 [(0, .ref (ad 8 i)), (1, .int a), (2, .int b), (3, .int c9), (4, .int d9)] := hl
  refine lv_iconst (v := 0) hx hb dX0_putParts_0 (by decide) ?_
  refine lv_istore (lv' := [(5, .int 0), (0, .ref (ad 8 i)), (1, .int a), (2, .int b), (3, .int c9), (4, .int d9)]) hx hb dX0_putParts_1 hl (by decide) rfl (fun ls hl => ?_)
  have loop3 : ∀ (d k : Nat) (m1 : k_I), k + d = 4 → (kLoop (fun k I => k_up I 10 i (upd (I 10 i) k (if nI k = 0 then a else if nI k = 1 then b else if nI k = 2 then c9 else d9))) d k m1 = kPutP i a b c9 d9 I) → ∀ (H : Heap) (locs : List Loc), Wd G ad nA nK m1 J H → va_S (k_A G) s.heap H locs → ∀ ls : Array Slot, lv_has ls 6 [(5, .int (nI k)), (0, .ref (ad 8 i)), (1, .int a), (2, .int b), (3, .int c9), (4, .int d9)] → W p l e { frames := 0, cells := 0, slots := 0, locals := 0 } s m ([.ref (ad 8 i), .int a, .int b, .int c9, .int d9] : List Value).toArray below meth c H locs 0 0 (MQ below (k_Q G (none) (Wd G ad nA nK (kPutP i a b c9 d9 I) J)) ([.ref (ad 8 i), .int a, .int b, .int c9, .int d9] : List Value).toArray s 0 0 (k_A G)) (F0 m 3 ls []) := by
    intro d
    induction d with
    | zero =>
      intro k m1 hi3 hz3  H locs hW hS ls hl
      have eIm1 : m1 = kPutP i a b c9 d9 I := hz3
      refine lv_iload hx hb dX0_putParts_3 (lv_at hl 0 rfl) ?_
      refine lv_aload_n hx hb dX0_putParts_5 rfl (lv_at hl 1 rfl) ?_
      refine w_get X hW 8 i hi rfl rfl inG0 4 (by decide) g193 rfl dX0_putParts_6 ?_
      refine w_alen X hW 10 i hi rfl 0 rfl (v := 4) rfl dX0_putParts_9 ?_
      refine lv_icmp_ge (tgt := 57) hx hb dX0_putParts_10 (by decide) (fun _ => ?_) (fun c_1 => absurd (nI_le (a := 4) (b := k) (by omega) (by omega)) c_1)
      exact w_vret X hr hlk hS (hW.to (by first | rfl | (subst eIm1; simp []; done) | (subst eIm1; rfl) | (subst eIm1; simp []; done) | (subst eIm1; simp []; rfl) | (simp [eIm1]; done)) rfl) dX0_putParts_57
    | succ d ih =>
      intro k m1 hi3 hz3  H locs hW hS ls hl
      have hlt3 : k < 4 := by omega
      have ih3 := ih
      refine lv_iload hx hb dX0_putParts_3 (lv_at hl 0 rfl) ?_
      refine lv_aload_n hx hb dX0_putParts_5 rfl (lv_at hl 1 rfl) ?_
      refine w_get X hW 8 i hi rfl rfl inG0 4 (by decide) g193 rfl dX0_putParts_6 ?_
      refine w_alen X hW 10 i hi rfl 0 rfl (v := 4) rfl dX0_putParts_9 ?_
      refine lv_icmp_ge (tgt := 57) hx hb dX0_putParts_10 (by decide) (fun c_2 => absurd c_2 (nI_ge (a := k) (b := 4) (by omega) (by omega))) (fun _ => ?_)
      refine lv_aload_n hx hb dX0_putParts_13 rfl (lv_at hl 1 rfl) ?_
      refine w_get X hW 8 i hi rfl rfl inG0 4 (by decide) g193 rfl dX0_putParts_14 ?_
      refine lv_iload hx hb dX0_putParts_17 (lv_at hl 0 rfl) ?_
      refine lv_iload hx hb dX0_putParts_19 (lv_at hl 0 rfl) ?_
      refine lv_if_ne (tgt := 28) hx hb dX0_putParts_21 (by decide) (fun c_3 => ?_) (fun c_3 => ?_)
      · skip
        refine lv_iload hx hb dX0_putParts_28 (lv_at hl 0 rfl) ?_
        refine lv_iconst (v := 1) hx hb dX0_putParts_30 (by decide) ?_
        refine lv_icmp_ne (tgt := 38) hx hb dX0_putParts_31 (by decide) (fun c_4 => ?_) (fun c_4 => ?_)
        · skip
          refine lv_iload hx hb dX0_putParts_38 (lv_at hl 0 rfl) ?_
          refine lv_iconst (v := 2) hx hb dX0_putParts_40 (by decide) ?_
          refine lv_icmp_ne (tgt := 48) hx hb dX0_putParts_41 (by decide) (fun c_5 => ?_) (fun c_5 => ?_)
          · skip
            refine lv_iload hx hb dX0_putParts_48 (lv_at hl 5 rfl) ?_
            refine w_iastN (i := k) X hW hS 10 i hi rfl (by omega) rfl dX0_putParts_50 (fun H locs hW hS => ?_)
            obtain ⟨I6, eI6⟩ : ∃ z, z = k_up m1 10 i (upd (m1 10 i) k d9) := ⟨_, rfl⟩
            rw [← eI6] at hW
            refine lv_iinc (v := nI (k + 1)) (lv' := [(5, .int (nI (k + 1))), (0, .ref (ad 8 i)), (1, .int a), (2, .int b), (3, .int c9), (4, .int d9)]) hx hb dX0_putParts_51 hl (k := 0) rfl (nI_1 k) (by decide) rfl (fun ls hl => ?_)
            refine lv_goto (tgt := 3) hx hb dX0_putParts_54 (by decide) ?_
            exact ih3 (k + 1) I6 (by omega) (by subst eI6; first | exact hz3 | (rw [← hz3]; simp [kLoop, c_3, c_4, c_5]; done) | (rw [← hz3]; simp [kLoop, c_3, c_4, c_5]; rfl)) _ _ hW hS ls (lv_sub hl [0, 1, 2, 3, 4, 5] rfl)
          · skip
            refine lv_iload_n hx hb dX0_putParts_44 rfl (lv_at hl 4 rfl) ?_
            refine lv_goto (tgt := 50) hx hb dX0_putParts_45 (by decide) ?_
            refine w_iastN (i := k) X hW hS 10 i hi rfl (by omega) rfl dX0_putParts_50 (fun H locs hW hS => ?_)
            obtain ⟨I7, eI7⟩ : ∃ z, z = k_up m1 10 i (upd (m1 10 i) k c9) := ⟨_, rfl⟩
            rw [← eI7] at hW
            refine lv_iinc (v := nI (k + 1)) (lv' := [(5, .int (nI (k + 1))), (0, .ref (ad 8 i)), (1, .int a), (2, .int b), (3, .int c9), (4, .int d9)]) hx hb dX0_putParts_51 hl (k := 0) rfl (nI_1 k) (by decide) rfl (fun ls hl => ?_)
            refine lv_goto (tgt := 3) hx hb dX0_putParts_54 (by decide) ?_
            exact ih3 (k + 1) I7 (by omega) (by subst eI7; first | exact hz3 | (rw [← hz3]; simp [kLoop, c_3, c_4, c_5]; done) | (rw [← hz3]; simp [kLoop, c_3, c_4, c_5]; rfl)) _ _ hW hS ls (lv_sub hl [0, 1, 2, 3, 4, 5] rfl)
        · skip
          refine lv_iload_n hx hb dX0_putParts_34 rfl (lv_at hl 3 rfl) ?_
          refine lv_goto (tgt := 50) hx hb dX0_putParts_35 (by decide) ?_
          refine w_iastN (i := k) X hW hS 10 i hi rfl (by omega) rfl dX0_putParts_50 (fun H locs hW hS => ?_)
          obtain ⟨I8, eI8⟩ : ∃ z, z = k_up m1 10 i (upd (m1 10 i) k b) := ⟨_, rfl⟩
          rw [← eI8] at hW
          refine lv_iinc (v := nI (k + 1)) (lv' := [(5, .int (nI (k + 1))), (0, .ref (ad 8 i)), (1, .int a), (2, .int b), (3, .int c9), (4, .int d9)]) hx hb dX0_putParts_51 hl (k := 0) rfl (nI_1 k) (by decide) rfl (fun ls hl => ?_)
          refine lv_goto (tgt := 3) hx hb dX0_putParts_54 (by decide) ?_
          exact ih3 (k + 1) I8 (by omega) (by subst eI8; first | exact hz3 | (rw [← hz3]; simp [kLoop, c_3, c_4]; done) | (rw [← hz3]; simp [kLoop, c_3, c_4]; rfl)) _ _ hW hS ls (lv_sub hl [0, 1, 2, 3, 4, 5] rfl)
      · skip
        refine lv_iload_n hx hb dX0_putParts_24 rfl (lv_at hl 2 rfl) ?_
        refine lv_goto (tgt := 50) hx hb dX0_putParts_25 (by decide) ?_
        refine w_iastN (i := k) X hW hS 10 i hi rfl (by omega) rfl dX0_putParts_50 (fun H locs hW hS => ?_)
        obtain ⟨I9, eI9⟩ : ∃ z, z = k_up m1 10 i (upd (m1 10 i) k a) := ⟨_, rfl⟩
        rw [← eI9] at hW
        refine lv_iinc (v := nI (k + 1)) (lv' := [(5, .int (nI (k + 1))), (0, .ref (ad 8 i)), (1, .int a), (2, .int b), (3, .int c9), (4, .int d9)]) hx hb dX0_putParts_51 hl (k := 0) rfl (nI_1 k) (by decide) rfl (fun ls hl => ?_)
        refine lv_goto (tgt := 3) hx hb dX0_putParts_54 (by decide) ?_
        exact ih3 (k + 1) I9 (by omega) (by subst eI9; first | exact hz3 | (rw [← hz3]; simp [kLoop, c_3]; done) | (rw [← hz3]; simp [kLoop, c_3]; rfl)) _ _ hW hS ls (lv_sub hl [0, 1, 2, 3, 4, 5] rfl)
  exact loop3 4 0 I (by omega) rfl _ _ hW hS ls (lv_sub hl [0, 1, 2, 3, 4, 5] rfl)
