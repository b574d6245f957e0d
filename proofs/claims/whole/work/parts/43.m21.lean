theorem k_keepS {n nK nA : Nat} {I : k_I} (h : k_S n nK I) (h24 : n < 24) (hn : n + 1 = nA) : k_S nA nK (k_up (k_up I 6 0 (upd (I 6 0) n 1)) 0 0 (upd (k_up I 6 0 (upd (I 6 0) n 1) 0 0) 4 (nI (n + 1)))) := by
  subst hn
  obtain ⟨a, b, c, d, e6, e7⟩ := h
  refine ⟨by simp [k_up, upd], by simp [k_up, upd, b], h24, d, fun j hj => ?_, fun j hj => ?_⟩
  · by_cases hjn : j = n
    · subst hjn; simp [k_up, upd]
    · have := e6 j (by omega)
      simpa [k_up, upd, hjn] using this
  · have := e7 j hj
    simpa [k_up, upd] using this
theorem k_askS {nA n : Nat} {I : k_I} (h : k_S nA n I) (h30 : n < 30) : k_S nA (n + 1) (k_up (k_up I 7 0 (upd (I 7 0) n 1)) 0 0 (upd (k_up I 7 0 (upd (I 7 0) n 1) 0 0) 5 (nI (n + 1)))) := by
  obtain ⟨a, b, c, d, e6, e7⟩ := h
  refine ⟨by simp [k_up, upd, a], by simp [k_up, upd], c, h30, fun j hj => ?_, fun j hj => ?_⟩
  · have := e6 j hj
    simpa [k_up, upd] using this
  · by_cases hjn : j = n
    · subst hjn; simp [k_up, upd]
    · have := e7 j (by omega)
      simpa [k_up, upd, hjn] using this
theorem k_lt24 {n N : Nat} (hn : n ≤ N) (hN : N < 2 ^ 31) {x : Int32} (hx : x = nI N) (c : nI n < x) : n < N := by
  subst hx
  exact (nI_ltI (by omega) (by omega)).mp c
theorem k_wf {n : Nat} : nI n + 1 = nI (n + 1) := nI_1 n
set_option maxHeartbeats 4000000 in
set_option maxRecDepth 100000 in
theorem m_X4_isAnswer (l : Launch) (G : k_G) (ad : Nat → Nat → Nat) (nA nK : Nat) (I : k_I) (J : k_J) (a : Int32) (hs : k_S nA nK I) : k_Met l yX4_isAnswer cX4_isAnswer 2 (some FieldType.boolean) { frames := 0, cells := 0, slots := 0, locals := 0 } G [.ref (ad 0 0), .int a] (Wd G ad nA nK I J) (some (.int (k_b (kIsA nA a)))) (Wd G ad nA nK I J) 0 0 := by
  refine k_body (by decide) (Nat.le_of_ble_eq_true rfl) ?_
  intro p e s m below meth c ls X hr hlk hnm hW hS hl
  have hx := X.1.1
  have hb := X.1.2.1
  have hG := X.1.2.2.2.2
  have hl : lv_has ls 2 [(0, .ref (ad 0 0)), (1, .int a)] := hl
  refine lv_iload_n hx hb dX4_isAnswer_0 rfl (lv_at hl 1 rfl) ?_
  refine lv_if_lt (tgt := 16) hx hb dX4_isAnswer_1 (by decide) (fun c_1 => ?_) (fun c_1 => ?_)
  · skip
    refine lv_iconst (v := 0) hx hb dX4_isAnswer_16 (by decide) ?_
    exact w_zret X hr hlk hS (by first | rfl | (simp [kIsA, k_b, c_1]; done) | (simp [kIsA, k_b, c_1]; rfl)) (k_b_n _) hW dX4_isAnswer_17
  · skip
    refine lv_iload_n hx hb dX4_isAnswer_4 rfl (lv_at hl 1 rfl) ?_
    refine lv_aload_n hx hb dX4_isAnswer_5 rfl (lv_at hl 0 rfl) ?_
    refine w_get (v := .int (nI nA)) X hW 0 0 Nat.zero_lt_one rfl rfl inG4 4 (by decide) g53 (congrArg (fun z => some (Value.int z)) hs.1) dX4_isAnswer_6 ?_
    refine lv_icmp_ge (tgt := 16) hx hb dX4_isAnswer_9 (by decide) (fun c_2 => ?_) (fun c_2 => ?_)
    · skip
      refine lv_iconst (v := 0) hx hb dX4_isAnswer_16 (by decide) ?_
      exact w_zret X hr hlk hS (by first | rfl | (simp [kIsA, k_b, c_1, c_2]; done) | (simp [kIsA, k_b, c_1, c_2]; rfl)) (k_b_n _) hW dX4_isAnswer_17
    · skip
      refine lv_iconst (v := 1) hx hb dX4_isAnswer_12 (by decide) ?_
      refine lv_goto (tgt := 17) hx hb dX4_isAnswer_13 (by decide) ?_
      exact w_zret X hr hlk hS (by first | rfl | (simp [kIsA, k_b, c_1, c_2]; done) | (simp [kIsA, k_b, c_1, c_2]; rfl)) (k_b_n _) hW dX4_isAnswer_17
set_option maxHeartbeats 4000000 in
set_option maxRecDepth 100000 in
theorem m_X4_keep (l : Launch) (G : k_G) (ad : Nat → Nat → Nat) (nA nK : Nat) (I : k_I) (J : k_J) (n : Nat) (hn : n < nA) (hn : n + 1 = nA) (hk : k_S n nK I) (h24 : n < 24) : k_Met l yX4_keep cX4_keep 2 none { frames := 5, cells := 0, slots := 0, locals := 112 } G [.ref (ad 0 0), .ref (ad 8 n)] (Wd G ad nA nK I J) (none) (Wd G ad nA nK ((kSettle nA nK (kKeep n I, J)).1) ((kSettle nA nK (kKeep n I, J)).2)) 0 0 := by
  refine k_body (by decide) (Nat.le_of_ble_eq_true rfl) ?_
  intro p e s m below meth c ls X hr hlk hnm hW hS hl
  have hx := X.1.1
  have hb := X.1.2.1
  have hG := X.1.2.2.2.2
  have hcnt := hk.1
  have hl : lv_has ls 2 [(0, .ref (ad 0 0)), (1, .ref (ad 8 n))] := hl
  refine lv_aload_n hx hb dX4_keep_0 rfl (lv_at hl 0 rfl) ?_
  refine w_get (v := .int (nI n)) X hW 0 0 Nat.zero_lt_one rfl rfl inG4 4 (by decide) g53 (congrArg (fun z => some (Value.int z)) hcnt) dX4_keep_1 ?_
  refine lv_aload_n hx hb dX4_keep_4 rfl (lv_at hl 0 rfl) ?_
  refine w_get X hW 0 0 Nat.zero_lt_one rfl rfl inG4 2 (by decide) g51 rfl dX4_keep_5 ?_
  refine w_alen X hW 6 0 Nat.zero_lt_one rfl 3 rfl (v := 24) rfl dX4_keep_8 ?_
  refine lv_icmp_ge (tgt := 32) hx hb dX4_keep_9 (by decide) (fun c_1 => absurd c_1 (nI_ge (a := n) (b := 24) (by omega) (by omega))) (fun c_1 => ?_)
  refine lv_aload_n hx hb dX4_keep_12 rfl (lv_at hl 0 rfl) ?_
  refine w_get X hW 0 0 Nat.zero_lt_one rfl rfl inG4 2 (by decide) g51 rfl dX4_keep_13 ?_
  refine lv_aload_n hx hb dX4_keep_16 rfl (lv_at hl 0 rfl) ?_
  refine w_get (v := .int (nI n)) X hW 0 0 Nat.zero_lt_one rfl rfl inG4 4 (by decide) g53 (congrArg (fun z => some (Value.int z)) hcnt) dX4_keep_17 ?_
  refine lv_aload_n hx hb dX4_keep_20 rfl (lv_at hl 1 rfl) ?_
  refine w_aast X hW hS 6 8 3 24 0 Nat.zero_lt_one (show n < nA by omega) (fun _ _ => rfl) rfl rfl rfl (by omega) dX4_keep_21 (fun H locs hW hS => ?_)
  obtain ⟨I2, eI2⟩ : ∃ z, z = k_up I 6 0 (upd (I 6 0) n 1) := ⟨_, rfl⟩
  rw [← eI2] at hW
  refine lv_aload_n hx hb dX4_keep_22 rfl (lv_at hl 0 rfl) ?_
  refine lv_dup hx hb dX4_keep_23 rfl ?_
  have hcnt : I2 0 0 4 = nI n := by rw [eI2, k_up_c (by decide)]; exact hcnt
  refine w_get (v := .int (nI n)) X hW 0 0 Nat.zero_lt_one rfl rfl inG4 4 (by decide) g53 (congrArg (fun z => some (Value.int z)) hcnt) dX4_keep_24 ?_
  refine lv_iconst (v := 1) hx hb dX4_keep_27 (by decide) ?_
  refine lw_iaddN (a := n) (b := 1) hx hb dX4_keep_28 ?_
  refine w_puti X hW hS 0 0 Nat.zero_lt_one rfl rfl inG4 tyX4 tyX4_ok nmX4 4 (by decide) g53 rfl rfl rfl (Nat.le_of_ble_eq_true rfl) rfl dX4_keep_29 (fun H locs hW hS => ?_)
  obtain ⟨I3, eI3⟩ : ∃ z, z = k_up I2 0 0 (upd (I2 0 0) 4 (nI (n + 1))) := ⟨_, rfl⟩
  rw [← eI3] at hW
  have hs : k_S nA nK I3 := by rw [eI3, eI2]; exact k_keepS hk h24 hn
  refine lv_aload_n hx hb dX4_keep_32 rfl (lv_at hl 0 rfl) ?_
  refine w_cVv X hS (m_X4_settle l G ad nA nK I3 J  hs) rfl rfl g95 g1 g92 g94 p0 hd_X4_settle ⟨Nat.le_of_ble_eq_true rfl, Nat.le_of_ble_eq_true rfl⟩ (k_rec X hW 0 0 Nat.zero_lt_one rfl rfl) hW hl.1 rfl (Nat.le_of_ble_eq_true rfl) dX4_keep_33 (Nat.zero_le _) (Nat.zero_le _) (fun H locs hW hS => ?_)
  obtain ⟨I4, eI4⟩ : ∃ z, z = (kSettle nA nK (I3, J)).1 := ⟨_, rfl⟩
  rw [← eI4] at hW
  have hs4 : k_S nA nK I4 := by rw [eI4]; exact (kSettle_S (s := (I3, J)) hs)
  obtain ⟨J4, eJ4⟩ : ∃ z, z = (kSettle nA nK (I3, J)).2 := ⟨_, rfl⟩
  rw [← eJ4] at hW
  exact w_vret X hr hlk hS (hW.to (by subst eJ4 eI4 eI3 eI2; rfl) (by subst eJ4 eI4 eI3 eI2; rfl)) dX4_keep_36
