set_option maxHeartbeats 4000000 in
set_option maxRecDepth 100000 in
theorem m_X4_join (l : Launch) (G : k_G) (ad : Nat → Nat → Nat) (nA nK : Nat) (I : k_I) (J : k_J) (a : Int32) (b : Int32) (c9 : Int32) (d9 : Int32) (hs : k_S nA nK I) (hz : I 6 0 nA = 0) : k_Met l yX4_join cX4_join 8 (some FieldType.int) { frames := 6, cells := 3, slots := 20, locals := 133 } G [.ref (ad 0 0), .int a, .int b, .int c9, .int d9] (Wd G ad nA nK I J) (some (.int ((cJoin nA nK a b c9 d9 (I, J)).1))) (fun H => ∃ ad' : Nat → Nat → Nat, (∀ c i, i < k_n nA nK c → ad' c i = ad c i) ∧ Wd G ad' (cJoin nA nK a b c9 d9 (I, J)).2.1 nK (cJoin nA nK a b c9 d9 (I, J)).2.2.1 (cJoin nA nK a b c9 d9 (I, J)).2.2.2 H) 3 20 := by
  refine k_body (by decide) (Nat.le_of_ble_eq_true rfl) ?_
  intro p e s m below meth c ls X hr hlk hnm hW hS hl
  have hx := X.1.1
  have hb := X.1.2.1
  have hG := X.1.2.2.2.2
  have hA24 := hs.2.2.1
  have hK30 := hs.2.2.2.1
  have hl : lv_has ls 8 [(0, .ref (ad 0 0)), (1, .int a), (2, .int b), (3, .int c9), (4, .int d9)] := hl
  refine lv_aload_n hx hb dX4_join_0 rfl (lv_at hl 0 rfl) ?_
  refine lv_iload_n hx hb dX4_join_1 rfl (lv_at hl 1 rfl) ?_
  refine w_cV1 X hS (m_X4_isAnswer l G ad nA nK I J a hs) rfl rfl g256 g1 g253 g255 p9 hd_X4_isAnswer ⟨Nat.le_of_ble_eq_true rfl, Nat.le_of_ble_eq_true rfl⟩ (k_rec X hW 0 0 Nat.zero_lt_one rfl rfl) hW hl.1 rfl (Nat.le_of_ble_eq_true rfl) dX4_join_2 (Nat.zero_le _) (Nat.zero_le _) (fun H locs hW hS => ?_)
  refine lb_if_eq (tgt := 44) hx hb dX4_join_5 (by decide) (fun c_1 => ?_) (fun c_1 => ?_)
  · skip
    refine lv_sipush (v := (-1001)) hx hb dX4_join_44 (by decide) ?_
    refine W.widen (k := 3) (n := 20) (Nat.zero_le _) (Nat.zero_le _) ?_
    exact w_iret X hr hlk hS (by simp [cJoin, cJoinOk1, cJoinOk2, kJoinX, c_1]) ⟨ad, fun _ _ _ => rfl, hW.to3 (by simp [cJoin, cJoinOk1, cJoinOk2, kJoinX, c_1]) rfl (by simp [cJoin, cJoinOk1, cJoinOk2, kJoinX, c_1]) (by simp [cJoin, cJoinOk1, cJoinOk2, kJoinX, c_1])⟩ dX4_join_47
  · skip
    refine lv_aload_n hx hb dX4_join_8 rfl (lv_at hl 0 rfl) ?_
    refine lv_iload_n hx hb dX4_join_9 rfl (lv_at hl 2 rfl) ?_
    refine w_cV1 X hS (m_X4_isAnswer l G ad nA nK I J b hs) rfl rfl g256 g1 g253 g255 p9 hd_X4_isAnswer ⟨Nat.le_of_ble_eq_true rfl, Nat.le_of_ble_eq_true rfl⟩ (k_rec X hW 0 0 Nat.zero_lt_one rfl rfl) hW hl.1 rfl (Nat.le_of_ble_eq_true rfl) dX4_join_10 (Nat.zero_le _) (Nat.zero_le _) (fun H locs hW hS => ?_)
    refine lb_if_eq (tgt := 44) hx hb dX4_join_13 (by decide) (fun c_2 => ?_) (fun c_2 => ?_)
    · skip
      refine lv_sipush (v := (-1001)) hx hb dX4_join_44 (by decide) ?_
      refine W.widen (k := 3) (n := 20) (Nat.zero_le _) (Nat.zero_le _) ?_
      exact w_iret X hr hlk hS (by simp [cJoin, cJoinOk1, cJoinOk2, kJoinX, c_1, c_2]) ⟨ad, fun _ _ _ => rfl, hW.to3 (by simp [cJoin, cJoinOk1, cJoinOk2, kJoinX, c_1, c_2]) rfl (by simp [cJoin, cJoinOk1, cJoinOk2, kJoinX, c_1, c_2]) (by simp [cJoin, cJoinOk1, cJoinOk2, kJoinX, c_1, c_2])⟩ dX4_join_47
    · skip
      refine lv_iload_n hx hb dX4_join_16 rfl (lv_at hl 3 rfl) ?_
      refine lv_iconst (v := (-1)) hx hb dX4_join_17 (by decide) ?_
      refine lv_icmp_eq (tgt := 29) hx hb dX4_join_18 (by decide) (fun c_3 => ?_) (fun c_3 => ?_)
      · skip
        refine lv_iload hx hb dX4_join_29 (lv_at hl 4 rfl) ?_
        refine lv_iconst (v := (-1)) hx hb dX4_join_31 (by decide) ?_
        refine lv_icmp_eq (tgt := 48) hx hb dX4_join_32 (by decide) (fun c_4 => ?_) (fun c_4 => ?_)
        · skip
          have join70 : ∀ (cn : Int32), (kJoinN c9 d9 = cn) → ∀ (H : Heap) (locs : List Loc), Wd G ad nA nK I J H → va_S (k_A G) s.heap H locs → ∀ ls : Array Slot, lv_has ls 8 [(5, .int cn), (0, .ref (ad 0 0)), (1, .int a), (2, .int b), (3, .int c9), (4, .int d9)] → W p l e { frames := 6, cells := 3, slots := 20, locals := 133 } s m ([.ref (ad 0 0), .int a, .int b, .int c9, .int d9] : List Value).toArray below meth c H locs 0 0 (MQ below (k_Q G (some (.int ((cJoin nA nK a b c9 d9 (I, J)).1))) (fun H => ∃ ad' : Nat → Nat → Nat, (∀ c i, i < k_n nA nK c → ad' c i = ad c i) ∧ Wd G ad' (cJoin nA nK a b c9 d9 (I, J)).2.1 nK (cJoin nA nK a b c9 d9 (I, J)).2.2.1 (cJoin nA nK a b c9 d9 (I, J)).2.2.2 H)) ([.ref (ad 0 0), .int a, .int b, .int c9, .int d9] : List Value).toArray s 3 20 (k_A G)) (F0 m 70 ls []) := by
            intro cn hcn H locs hW hS ls hl
            refine lv_iload_n hx hb dX4_join_70 rfl (lv_at hl 2 rfl) ?_
            refine w_cS1 X hS (m_X4_bit l G (Wd G ad nA nK I J) a ) rfl rfl g110 g1 g131 g109 hd_X4_bit ⟨Nat.le_of_ble_eq_true rfl, Nat.le_of_ble_eq_true rfl⟩ hW hl.1 rfl (Nat.le_of_ble_eq_true rfl) dX4_join_71 (Nat.zero_le _) (Nat.zero_le _) (fun H locs hW hS => ?_)
            refine lv_iload_n hx hb dX4_join_74 rfl (lv_at hl 3 rfl) ?_
            refine w_cS1 X hS (m_X4_bit l G (Wd G ad nA nK I J) b ) rfl rfl g110 g1 g131 g109 hd_X4_bit ⟨Nat.le_of_ble_eq_true rfl, Nat.le_of_ble_eq_true rfl⟩ hW hl.1 rfl (Nat.le_of_ble_eq_true rfl) dX4_join_75 (Nat.zero_le _) (Nat.zero_le _) (fun H locs hW hS => ?_)
            refine lv_ior hx hb dX4_join_78 ?_
            refine lv_topi (fun x5 ex5 => ?_)
            refine lv_iload_n hx hb dX4_join_79 rfl (lv_at hl 4 rfl) ?_
            refine w_cS1 X hS (m_X4_bit l G (Wd G ad nA nK I J) c9 ) rfl rfl g110 g1 g131 g109 hd_X4_bit ⟨Nat.le_of_ble_eq_true rfl, Nat.le_of_ble_eq_true rfl⟩ hW hl.1 rfl (Nat.le_of_ble_eq_true rfl) dX4_join_80 (Nat.zero_le _) (Nat.zero_le _) (fun H locs hW hS => ?_)
            refine lv_ior hx hb dX4_join_83 ?_
            refine lv_iload hx hb dX4_join_84 (lv_at hl 5 rfl) ?_
            refine w_cS1 X hS (m_X4_bit l G (Wd G ad nA nK I J) d9 ) rfl rfl g110 g1 g131 g109 hd_X4_bit ⟨Nat.le_of_ble_eq_true rfl, Nat.le_of_ble_eq_true rfl⟩ hW hl.1 rfl (Nat.le_of_ble_eq_true rfl) dX4_join_86 (Nat.zero_le _) (Nat.zero_le _) (fun H locs hW hS => ?_)
            refine lv_ior hx hb dX4_join_89 ?_
            refine lv_topi (fun x6 ex6 => ?_)
            refine lv_istore (lv' := [(6, .int x6), (5, .int cn), (0, .ref (ad 0 0)), (1, .int a), (2, .int b), (3, .int c9), (4, .int d9)]) hx hb dX4_join_90 hl (by decide) rfl (fun ls hl => ?_)
            have hX : kJoinX a b c9 d9 = x6 := by rw [ex6, ex5]; rfl
            refine lv_iload_n hx hb dX4_join_92 rfl (lv_at hl 5 rfl) ?_
            refine lv_iconst (v := (-1)) hx hb dX4_join_93 (by decide) ?_
            refine lv_icmp_ne (tgt := 103) hx hb dX4_join_94 (by decide) (fun c_7 => absurd c_3 c_7) (fun _ => ?_)
            refine lv_iload hx hb dX4_join_97 (lv_at hl 6 rfl) ?_
            refine lv_iconst (v := (-1)) hx hb dX4_join_99 (by decide) ?_
            refine lv_icmp_ne (tgt := 122) hx hb dX4_join_100 (by decide) (fun c_8 => absurd c_4 c_8) (fun _ => ?_)
            refine lv_iload hx hb dX4_join_103 (lv_at hl 0 rfl) ?_
            refine w_cS1 X hS (m_J6_bitCount_0f7a4 l G (Wd G ad nA nK I J) x6 ) rfl rfl g259 g6 g257 g258 hd_J6_bitCount_0f7a4 ⟨Nat.le_of_ble_eq_true rfl, Nat.le_of_ble_eq_true rfl⟩ hW hl.1 rfl (Nat.le_of_ble_eq_true rfl) dX4_join_105 (Nat.zero_le _) (Nat.zero_le _) (fun H locs hW hS => ?_)
            refine lv_iload hx hb dX4_join_108 (lv_at hl 1 rfl) ?_
            refine lv_icmp_ne (tgt := 122) hx hb dX4_join_110 (by decide) (fun c_9 => ?_) (fun c_9 => ?_)
            · skip
              refine lv_sipush (v := (-1003)) hx hb dX4_join_122 (by decide) ?_
              refine W.widen (k := 3) (n := 20) (Nat.zero_le _) (Nat.zero_le _) ?_
              exact w_iret X hr hlk hS (by simp only [cJoin, cJoinOk1, cJoinOk2, hcn, hX]; simp [c_1, c_2, c_3, c_4, c_9]) ⟨ad, fun _ _ _ => rfl, hW.to3 (by simp only [cJoin, cJoinOk1, cJoinOk2, hcn, hX]; simp [c_1, c_2, c_3, c_4, c_9]) rfl (by simp only [cJoin, cJoinOk1, cJoinOk2, hcn, hX]; simp [c_1, c_2, c_3, c_4, c_9]) (by simp only [cJoin, cJoinOk1, cJoinOk2, hcn, hX]; simp [c_1, c_2, c_3, c_4, c_9])⟩ dX4_join_125
            · skip
              refine lv_aload_n hx hb dX4_join_113 rfl (lv_at hl 2 rfl) ?_
              refine lv_iload hx hb dX4_join_114 (lv_at hl 0 rfl) ?_
              refine w_cV1 X hS (m_X4_areAllPlain l G ad nA nK I J x6 hs) rfl rfl g266 g1 g263 g265 p10 hd_X4_areAllPlain ⟨Nat.le_of_ble_eq_true rfl, Nat.le_of_ble_eq_true rfl⟩ (k_rec X hW 0 0 Nat.zero_lt_one rfl rfl) hW hl.1 rfl (Nat.le_of_ble_eq_true rfl) dX4_join_116 (Nat.zero_le _) (Nat.zero_le _) (fun H locs hW hS => ?_)
              refine lb_if_ne (tgt := 126) hx hb dX4_join_119 (by decide) (fun c_10 => ?_) (fun c_10 => ?_)
              · skip
                refine lv_aload_n hx hb dX4_join_126 rfl (lv_at hl 2 rfl) ?_
                refine w_get (v := .int (nI nA)) X hW 0 0 Nat.zero_lt_one rfl rfl inG4 4 (by decide) g53 (congrArg (fun z => some (Value.int z)) hs.1) dX4_join_127 ?_
                refine lv_aload_n hx hb dX4_join_130 rfl (lv_at hl 2 rfl) ?_
                refine w_get X hW 0 0 Nat.zero_lt_one rfl rfl inG4 2 (by decide) g51 rfl dX4_join_131 ?_
                refine w_alen X hW 6 0 Nat.zero_lt_one rfl 3 rfl (v := 24) rfl dX4_join_134 ?_
                refine lv_icmp_lt (tgt := 142) hx hb dX4_join_135 (by decide) (fun c_11 => ?_) (fun c_11 => ?_)
                · skip
                  have h24 : nA < 24 := k_lt24 (N := 24) (by omega) (by decide) rfl c_11
                  refine w_newo X hW hS (ci := 0) (fs := [.int 0, .int 0, .int 0, .null, .null, .long 0, .int 0, .int 0, .int 0, .int 0, .long 0, .int 0, .int 0]) rfl inG0 tyX0 tyX0_ok g45 g181 g5 (fun j hj => by rcases (show j = 0 ∨ j = 1 ∨ j = 2 ∨ j = 3 ∨ j = 4 ∨ j = 5 ∨ j = 6 ∨ j = 7 ∨ j = 8 ∨ j = 9 ∨ j = 10 ∨ j = 11 ∨ j = 12 by omega) with rfl | rfl | rfl | rfl | rfl | rfl | rfl | rfl | rfl | rfl | rfl | rfl | rfl <;> rfl) (Nat.le_of_ble_eq_true rfl) (Nat.le_of_ble_eq_true rfl) dX4_join_142 (fun q9 H hW hS hat hqG hqn => ?_)
                  refine W.cs (cells' := 1) (slots' := 13) rfl rfl ?_
                  refine lv_dup hx hb dX4_join_145 rfl ?_
                  refine lv_aload_n hx hb dX4_join_146 rfl (lv_at hl 2 rfl) ?_
                  refine w_get (v := .int (nI nA)) X hW 0 0 Nat.zero_lt_one rfl rfl inG4 4 (by decide) g53 (congrArg (fun z => some (Value.int z)) hs.1) dX4_join_147 ?_
                  refine lv_iconst (v := 1) hx hb dX4_join_150 (by decide) ?_
                  refine lv_iconst (v := (-1)) hx hb dX4_join_151 (by decide) ?_
                  have hGs : G.2.2.1 ≤ H.size := Nat.le_trans X.2.2.2.2.2.1 hS.1
                  refine w_cI X hS (m_X0_init l G q9 H hqG hat (nI nA) 1 (-1)) g184 g5 g182 g183 rfl hd_X0_init ⟨Nat.le_of_ble_eq_true rfl, Nat.le_of_ble_eq_true rfl⟩ rfl hl.1 rfl (Nat.le_of_ble_eq_true rfl) dX4_join_152 ⟨Nat.le_of_ble_eq_true rfl, Nat.le_of_ble_eq_true rfl⟩ (fun H1 locs1 hB hS1 => ?_)
                  clear hS
                  refine W.cs (cells' := 3) (slots' := 20) rfl rfl ?_
                  obtain ⟨i9, e9⟩ : ∃ z, z = nA := ⟨_, rfl⟩
                  subst e9
                  obtain ⟨q1, q2, hNw⟩ := hB
                  obtain ⟨ad1, hold, had, hW1⟩ := k_grow8 hW hqn hqG hGs hz hNw
                  have ea : ad 0 0 = ad1 0 0 := (hold 0 0 Nat.zero_lt_one).symm
                  have ea2 : ad 7 0 = ad1 7 0 := (hold 7 0 Nat.zero_lt_one).symm
                  rw [← had]
                  try rw [ea2]
                  have hl : lv_has ls 8 [(6, .int x6), (5, .int cn), (0, .ref (ad1 0 0)), (1, .int a), (2, .int b), (3, .int c9), (4, .int d9)] := by have h := hl; rw [ea] at h; exact h
                  clear hW hat hqn hNw had ea ea2
                  obtain ⟨ad9, e8⟩ : ∃ z, z = ad := ⟨_, rfl⟩
                  subst e8
                  obtain ⟨ad, e8⟩ : ∃ z, z = ad1 := ⟨_, rfl⟩
                  subst e8
                  obtain ⟨nA, eN⟩ : ∃ z, z = i9 + 1 := ⟨_, rfl⟩
                  have hi9 : i9 < nA := by omega
                  have hs9 := hs
                  obtain ⟨I9, eI9⟩ : ∃ z, z = kNew i9 1 (-1) I := ⟨_, rfl⟩
                  obtain ⟨J9, eJ9⟩ : ∃ z, z = kNewJ i9 J := ⟨_, rfl⟩
                  have hW : Wd G ad nA nK I9 J9 H1 := hW1.to3 eN.symm rfl eI9.symm eJ9.symm
                  clear hW1 hGs
                  have hS := hS1
                  clear hS1
                  generalize H1 = H at hW hS ⊢
                  generalize locs1 = locs at hS ⊢
                  have hfin : cJoin i9 nK a b c9 d9 (I, J) = ((cJoin2 i9 nK a b c9 d9 (I, J)).1 8 i9 0, i9 + 1, cJoin2 i9 nK a b c9 d9 (I, J)) := by simp only [cJoin, cJoinOk1, cJoinOk2, hcn, hX]; simp [c_1, c_2, c_3, c_4, c_9, c_10, c_11]
                  refine lv_astore (lv' := [(7, .ref (ad 8 i9)), (6, .int x6), (5, .int cn), (0, .ref (ad 0 0)), (1, .int a), (2, .int b), (3, .int c9), (4, .int d9)]) hx hb dX4_join_155 hl (by decide) rfl (fun ls hl => ?_)
                  refine lv_aload hx hb dX4_join_157 (lv_at hl 0 rfl) ?_
                  refine lv_iload_n hx hb dX4_join_159 rfl (lv_at hl 4 rfl) ?_
                  refine lv_iload_n hx hb dX4_join_160 rfl (lv_at hl 5 rfl) ?_
                  refine lv_iload_n hx hb dX4_join_161 rfl (lv_at hl 6 rfl) ?_
                  refine lv_iload hx hb dX4_join_162 (lv_at hl 7 rfl) ?_
                  refine w_cVv X hS (m_X0_putParts l G ad nA nK I9 J9 i9 a b c9 d9 hi9) rfl rfl g278 g5 g275 g276 g277 hd_X0_putParts ⟨Nat.le_of_ble_eq_true rfl, Nat.le_of_ble_eq_true rfl⟩ (k_rec X hW 8 i9 hi9 rfl rfl) hW hl.1 rfl (Nat.le_of_ble_eq_true rfl) dX4_join_164 (Nat.le_of_ble_eq_true rfl) (Nat.le_of_ble_eq_true rfl) (fun H locs hW hS => ?_)
                  obtain ⟨I12, eI12⟩ : ∃ z, z = kPutP i9 a b c9 d9 I9 := ⟨_, rfl⟩
                  rw [← eI12] at hW
                  have hk9 : k_S i9 nK I12 := by subst eI12 eJ9 eI9; exact kJoin_S hs9
                  have hn9 : i9 + 1 = nA := eN.symm
                  refine lv_aload_n hx hb dX4_join_167 rfl (lv_at hl 3 rfl) ?_
                  refine lv_aload hx hb dX4_join_168 (lv_at hl 0 rfl) ?_
                  refine w_cVv X hS (m_X4_keep l G ad nA nK I12 J9 i9 hi9 (by first | assumption | omega) (by first | assumption | omega) (by first | assumption | omega)) rfl rfl g248 g1 g245 g247 p8 hd_X4_keep ⟨Nat.le_of_ble_eq_true rfl, Nat.le_of_ble_eq_true rfl⟩ (k_rec X hW 0 0 Nat.zero_lt_one rfl rfl) hW hl.1 rfl (Nat.le_of_ble_eq_true rfl) dX4_join_170 (Nat.le_of_ble_eq_true rfl) (Nat.le_of_ble_eq_true rfl) (fun H locs hW hS => ?_)
                  obtain ⟨I13, eI13⟩ : ∃ z, z = (kSettle nA nK (kKeep i9 I12, J9)).1 := ⟨_, rfl⟩
                  rw [← eI13] at hW
                  obtain ⟨J13, eJ13⟩ : ∃ z, z = (kSettle nA nK (kKeep i9 I12, J9)).2 := ⟨_, rfl⟩
                  rw [← eJ13] at hW
                  refine lv_aload hx hb dX4_join_173 (lv_at hl 0 rfl) ?_
                  refine w_get X hW 8 i9 hi9 rfl rfl inG0 0 (by decide) g187 rfl dX4_join_175 ?_
                  exact w_iret X hr hlk hS (by rw [hfin]; subst eJ13 eI13 eI12 eJ9 eI9; subst eN; rfl) ⟨ad, hold, hW.to3 (by rw [hfin]; exact eN) rfl (by rw [hfin]; subst eJ13 eI13 eI12 eJ9 eI9; subst eN; rfl) (by rw [hfin]; subst eJ13 eI13 eI12 eJ9 eI9; subst eN; rfl)⟩ dX4_join_178
                · skip
                  refine lv_sipush (v := (-1004)) hx hb dX4_join_138 (by decide) ?_
                  refine W.widen (k := 3) (n := 20) (Nat.zero_le _) (Nat.zero_le _) ?_
                  exact w_iret X hr hlk hS (by simp only [cJoin, cJoinOk1, cJoinOk2, hcn, hX]; simp [c_1, c_2, c_3, c_4, c_9, c_10, c_11]) ⟨ad, fun _ _ _ => rfl, hW.to3 (by simp only [cJoin, cJoinOk1, cJoinOk2, hcn, hX]; simp [c_1, c_2, c_3, c_4, c_9, c_10, c_11]) rfl (by simp only [cJoin, cJoinOk1, cJoinOk2, hcn, hX]; simp [c_1, c_2, c_3, c_4, c_9, c_10, c_11]) (by simp only [cJoin, cJoinOk1, cJoinOk2, hcn, hX]; simp [c_1, c_2, c_3, c_4, c_9, c_10, c_11])⟩ dX4_join_141
              · skip
                refine lv_sipush (v := (-1003)) hx hb dX4_join_122 (by decide) ?_
                refine W.widen (k := 3) (n := 20) (Nat.zero_le _) (Nat.zero_le _) ?_
                exact w_iret X hr hlk hS (by simp only [cJoin, cJoinOk1, cJoinOk2, hcn, hX]; simp [c_1, c_2, c_3, c_4, c_9, c_10]) ⟨ad, fun _ _ _ => rfl, hW.to3 (by simp only [cJoin, cJoinOk1, cJoinOk2, hcn, hX]; simp [c_1, c_2, c_3, c_4, c_9, c_10]) rfl (by simp only [cJoin, cJoinOk1, cJoinOk2, hcn, hX]; simp [c_1, c_2, c_3, c_4, c_9, c_10]) (by simp only [cJoin, cJoinOk1, cJoinOk2, hcn, hX]; simp [c_1, c_2, c_3, c_4, c_9, c_10])⟩ dX4_join_125
          refine lv_iload_n hx hb dX4_join_48 rfl (lv_at hl 3 rfl) ?_
          refine lv_iconst (v := (-1)) hx hb dX4_join_49 (by decide) ?_
          refine lv_icmp_ne (tgt := 57) hx hb dX4_join_50 (by decide) (fun c_14 => absurd c_3 c_14) (fun _ => ?_)
          refine lv_iconst (v := 2) hx hb dX4_join_53 (by decide) ?_
          refine lv_goto (tgt := 68) hx hb dX4_join_54 (by decide) ?_
          refine lv_istore (lv' := [(5, .int 2), (0, .ref (ad 0 0)), (1, .int a), (2, .int b), (3, .int c9), (4, .int d9)]) hx hb dX4_join_68 hl (by decide) rfl (fun ls hl => ?_)
          exact join70 2 (by simp [kJoinN, c_1, c_2, c_3, c_4]) _ _ hW hS ls (lv_sub hl [0, 1, 2, 3, 4, 5] rfl)
        · skip
          refine lv_aload_n hx hb dX4_join_35 rfl (lv_at hl 0 rfl) ?_
          refine lv_iload hx hb dX4_join_36 (lv_at hl 4 rfl) ?_
          refine w_cV1 X hS (m_X4_isAnswer l G ad nA nK I J d9 hs) rfl rfl g256 g1 g253 g255 p9 hd_X4_isAnswer ⟨Nat.le_of_ble_eq_true rfl, Nat.le_of_ble_eq_true rfl⟩ (k_rec X hW 0 0 Nat.zero_lt_one rfl rfl) hW hl.1 rfl (Nat.le_of_ble_eq_true rfl) dX4_join_38 (Nat.zero_le _) (Nat.zero_le _) (fun H locs hW hS => ?_)
          refine lb_if_ne (tgt := 48) hx hb dX4_join_41 (by decide) (fun c_15 => ?_) (fun c_15 => ?_)
          · skip
            have join70 : ∀ (cn : Int32), (kJoinN c9 d9 = cn) → ∀ (H : Heap) (locs : List Loc), Wd G ad nA nK I J H → va_S (k_A G) s.heap H locs → ∀ ls : Array Slot, lv_has ls 8 [(5, .int cn), (0, .ref (ad 0 0)), (1, .int a), (2, .int b), (3, .int c9), (4, .int d9)] → W p l e { frames := 6, cells := 3, slots := 20, locals := 133 } s m ([.ref (ad 0 0), .int a, .int b, .int c9, .int d9] : List Value).toArray below meth c H locs 0 0 (MQ below (k_Q G (some (.int ((cJoin nA nK a b c9 d9 (I, J)).1))) (fun H => ∃ ad' : Nat → Nat → Nat, (∀ c i, i < k_n nA nK c → ad' c i = ad c i) ∧ Wd G ad' (cJoin nA nK a b c9 d9 (I, J)).2.1 nK (cJoin nA nK a b c9 d9 (I, J)).2.2.1 (cJoin nA nK a b c9 d9 (I, J)).2.2.2 H)) ([.ref (ad 0 0), .int a, .int b, .int c9, .int d9] : List Value).toArray s 3 20 (k_A G)) (F0 m 70 ls []) := by
              intro cn hcn H locs hW hS ls hl
              refine lv_iload_n hx hb dX4_join_70 rfl (lv_at hl 2 rfl) ?_
              refine w_cS1 X hS (m_X4_bit l G (Wd G ad nA nK I J) a ) rfl rfl g110 g1 g131 g109 hd_X4_bit ⟨Nat.le_of_ble_eq_true rfl, Nat.le_of_ble_eq_true rfl⟩ hW hl.1 rfl (Nat.le_of_ble_eq_true rfl) dX4_join_71 (Nat.zero_le _) (Nat.zero_le _) (fun H locs hW hS => ?_)
              refine lv_iload_n hx hb dX4_join_74 rfl (lv_at hl 3 rfl) ?_
              refine w_cS1 X hS (m_X4_bit l G (Wd G ad nA nK I J) b ) rfl rfl g110 g1 g131 g109 hd_X4_bit ⟨Nat.le_of_ble_eq_true rfl, Nat.le_of_ble_eq_true rfl⟩ hW hl.1 rfl (Nat.le_of_ble_eq_true rfl) dX4_join_75 (Nat.zero_le _) (Nat.zero_le _) (fun H locs hW hS => ?_)
              refine lv_ior hx hb dX4_join_78 ?_
              refine lv_topi (fun x16 ex16 => ?_)
              refine lv_iload_n hx hb dX4_join_79 rfl (lv_at hl 4 rfl) ?_
              refine w_cS1 X hS (m_X4_bit l G (Wd G ad nA nK I J) c9 ) rfl rfl g110 g1 g131 g109 hd_X4_bit ⟨Nat.le_of_ble_eq_true rfl, Nat.le_of_ble_eq_true rfl⟩ hW hl.1 rfl (Nat.le_of_ble_eq_true rfl) dX4_join_80 (Nat.zero_le _) (Nat.zero_le _) (fun H locs hW hS => ?_)
              refine lv_ior hx hb dX4_join_83 ?_
              refine lv_topi (fun x17 ex17 => ?_)
              refine lv_iload hx hb dX4_join_84 (lv_at hl 5 rfl) ?_
              refine w_cS1 X hS (m_X4_bit l G (Wd G ad nA nK I J) d9 ) rfl rfl g110 g1 g131 g109 hd_X4_bit ⟨Nat.le_of_ble_eq_true rfl, Nat.le_of_ble_eq_true rfl⟩ hW hl.1 rfl (Nat.le_of_ble_eq_true rfl) dX4_join_86 (Nat.zero_le _) (Nat.zero_le _) (fun H locs hW hS => ?_)
              refine lv_ior hx hb dX4_join_89 ?_
              refine lv_topi (fun x18 ex18 => ?_)
              refine lv_istore (lv' := [(6, .int x18), (5, .int cn), (0, .ref (ad 0 0)), (1, .int a), (2, .int b), (3, .int c9), (4, .int d9)]) hx hb dX4_join_90 hl (by decide) rfl (fun ls hl => ?_)
              have hX : kJoinX a b c9 d9 = x18 := by rw [ex18, ex17, ex16]; rfl
              refine lv_iload_n hx hb dX4_join_92 rfl (lv_at hl 5 rfl) ?_
              refine lv_iconst (v := (-1)) hx hb dX4_join_93 (by decide) ?_
              refine lv_icmp_ne (tgt := 103) hx hb dX4_join_94 (by decide) (fun c_19 => absurd c_3 c_19) (fun _ => ?_)
              refine lv_iload hx hb dX4_join_97 (lv_at hl 6 rfl) ?_
              refine lv_iconst (v := (-1)) hx hb dX4_join_99 (by decide) ?_
              refine lv_icmp_ne (tgt := 122) hx hb dX4_join_100 (by decide) (fun _ => ?_) (fun c_20 => absurd c_20 c_4)
              refine lv_sipush (v := (-1003)) hx hb dX4_join_122 (by decide) ?_
              refine W.widen (k := 3) (n := 20) (Nat.zero_le _) (Nat.zero_le _) ?_
              exact w_iret X hr hlk hS (by simp only [cJoin, cJoinOk1, cJoinOk2, hcn, hX]; simp [c_1, c_2, c_3, c_4, c_15]) ⟨ad, fun _ _ _ => rfl, hW.to3 (by simp only [cJoin, cJoinOk1, cJoinOk2, hcn, hX]; simp [c_1, c_2, c_3, c_4, c_15]) rfl (by simp only [cJoin, cJoinOk1, cJoinOk2, hcn, hX]; simp [c_1, c_2, c_3, c_4, c_15]) (by simp only [cJoin, cJoinOk1, cJoinOk2, hcn, hX]; simp [c_1, c_2, c_3, c_4, c_15])⟩ dX4_join_125
            refine lv_iload_n hx hb dX4_join_48 rfl (lv_at hl 3 rfl) ?_
            refine lv_iconst (v := (-1)) hx hb dX4_join_49 (by decide) ?_
            refine lv_icmp_ne (tgt := 57) hx hb dX4_join_50 (by decide) (fun c_21 => absurd c_3 c_21) (fun _ => ?_)
            refine lv_iconst (v := 2) hx hb dX4_join_53 (by decide) ?_
            refine lv_goto (tgt := 68) hx hb dX4_join_54 (by decide) ?_
            refine lv_istore (lv' := [(5, .int 2), (0, .ref (ad 0 0)), (1, .int a), (2, .int b), (3, .int c9), (4, .int d9)]) hx hb dX4_join_68 hl (by decide) rfl (fun ls hl => ?_)
            exact join70 2 (by simp [kJoinN, c_1, c_2, c_3, c_4, c_15]) _ _ hW hS ls (lv_sub hl [0, 1, 2, 3, 4, 5] rfl)
          · skip
            refine lv_sipush (v := (-1001)) hx hb dX4_join_44 (by decide) ?_
            refine W.widen (k := 3) (n := 20) (Nat.zero_le _) (Nat.zero_le _) ?_
            exact w_iret X hr hlk hS (by simp [cJoin, cJoinOk1, cJoinOk2, kJoinX, c_1, c_2, c_3, c_4, c_15]) ⟨ad, fun _ _ _ => rfl, hW.to3 (by simp [cJoin, cJoinOk1, cJoinOk2, kJoinX, c_1, c_2, c_3, c_4, c_15]) rfl (by simp [cJoin, cJoinOk1, cJoinOk2, kJoinX, c_1, c_2, c_3, c_4, c_15]) (by simp [cJoin, cJoinOk1, cJoinOk2, kJoinX, c_1, c_2, c_3, c_4, c_15])⟩ dX4_join_47
      · skip
        refine lv_aload_n hx hb dX4_join_21 rfl (lv_at hl 0 rfl) ?_
        refine lv_iload_n hx hb dX4_join_22 rfl (lv_at hl 3 rfl) ?_
        refine w_cV1 X hS (m_X4_isAnswer l G ad nA nK I J c9 hs) rfl rfl g256 g1 g253 g255 p9 hd_X4_isAnswer ⟨Nat.le_of_ble_eq_true rfl, Nat.le_of_ble_eq_true rfl⟩ (k_rec X hW 0 0 Nat.zero_lt_one rfl rfl) hW hl.1 rfl (Nat.le_of_ble_eq_true rfl) dX4_join_23 (Nat.zero_le _) (Nat.zero_le _) (fun H locs hW hS => ?_)
        refine lb_if_eq (tgt := 44) hx hb dX4_join_26 (by decide) (fun c_22 => ?_) (fun c_22 => ?_)
        · skip
          refine lv_sipush (v := (-1001)) hx hb dX4_join_44 (by decide) ?_
          refine W.widen (k := 3) (n := 20) (Nat.zero_le _) (Nat.zero_le _) ?_
          exact w_iret X hr hlk hS (by simp [cJoin, cJoinOk1, cJoinOk2, kJoinX, c_1, c_2, c_3, c_22]) ⟨ad, fun _ _ _ => rfl, hW.to3 (by simp [cJoin, cJoinOk1, cJoinOk2, kJoinX, c_1, c_2, c_3, c_22]) rfl (by simp [cJoin, cJoinOk1, cJoinOk2, kJoinX, c_1, c_2, c_3, c_22]) (by simp [cJoin, cJoinOk1, cJoinOk2, kJoinX, c_1, c_2, c_3, c_22])⟩ dX4_join_47
        · skip
          refine lv_iload hx hb dX4_join_29 (lv_at hl 4 rfl) ?_
          refine lv_iconst (v := (-1)) hx hb dX4_join_31 (by decide) ?_
          refine lv_icmp_eq (tgt := 48) hx hb dX4_join_32 (by decide) (fun c_23 => ?_) (fun c_23 => ?_)
          · skip
            have join70 : ∀ (cn : Int32), (kJoinN c9 d9 = cn) → ∀ (H : Heap) (locs : List Loc), Wd G ad nA nK I J H → va_S (k_A G) s.heap H locs → ∀ ls : Array Slot, lv_has ls 8 [(5, .int cn), (0, .ref (ad 0 0)), (1, .int a), (2, .int b), (3, .int c9), (4, .int d9)] → W p l e { frames := 6, cells := 3, slots := 20, locals := 133 } s m ([.ref (ad 0 0), .int a, .int b, .int c9, .int d9] : List Value).toArray below meth c H locs 0 0 (MQ below (k_Q G (some (.int ((cJoin nA nK a b c9 d9 (I, J)).1))) (fun H => ∃ ad' : Nat → Nat → Nat, (∀ c i, i < k_n nA nK c → ad' c i = ad c i) ∧ Wd G ad' (cJoin nA nK a b c9 d9 (I, J)).2.1 nK (cJoin nA nK a b c9 d9 (I, J)).2.2.1 (cJoin nA nK a b c9 d9 (I, J)).2.2.2 H)) ([.ref (ad 0 0), .int a, .int b, .int c9, .int d9] : List Value).toArray s 3 20 (k_A G)) (F0 m 70 ls []) := by
              intro cn hcn H locs hW hS ls hl
              refine lv_iload_n hx hb dX4_join_70 rfl (lv_at hl 2 rfl) ?_
              refine w_cS1 X hS (m_X4_bit l G (Wd G ad nA nK I J) a ) rfl rfl g110 g1 g131 g109 hd_X4_bit ⟨Nat.le_of_ble_eq_true rfl, Nat.le_of_ble_eq_true rfl⟩ hW hl.1 rfl (Nat.le_of_ble_eq_true rfl) dX4_join_71 (Nat.zero_le _) (Nat.zero_le _) (fun H locs hW hS => ?_)
              refine lv_iload_n hx hb dX4_join_74 rfl (lv_at hl 3 rfl) ?_
              refine w_cS1 X hS (m_X4_bit l G (Wd G ad nA nK I J) b ) rfl rfl g110 g1 g131 g109 hd_X4_bit ⟨Nat.le_of_ble_eq_true rfl, Nat.le_of_ble_eq_true rfl⟩ hW hl.1 rfl (Nat.le_of_ble_eq_true rfl) dX4_join_75 (Nat.zero_le _) (Nat.zero_le _) (fun H locs hW hS => ?_)
              refine lv_ior hx hb dX4_join_78 ?_
              refine lv_topi (fun x24 ex24 => ?_)
              refine lv_iload_n hx hb dX4_join_79 rfl (lv_at hl 4 rfl) ?_
              refine w_cS1 X hS (m_X4_bit l G (Wd G ad nA nK I J) c9 ) rfl rfl g110 g1 g131 g109 hd_X4_bit ⟨Nat.le_of_ble_eq_true rfl, Nat.le_of_ble_eq_true rfl⟩ hW hl.1 rfl (Nat.le_of_ble_eq_true rfl) dX4_join_80 (Nat.zero_le _) (Nat.zero_le _) (fun H locs hW hS => ?_)
              refine lv_ior hx hb dX4_join_83 ?_
              refine lv_topi (fun x25 ex25 => ?_)
              refine lv_iload hx hb dX4_join_84 (lv_at hl 5 rfl) ?_
              refine w_cS1 X hS (m_X4_bit l G (Wd G ad nA nK I J) d9 ) rfl rfl g110 g1 g131 g109 hd_X4_bit ⟨Nat.le_of_ble_eq_true rfl, Nat.le_of_ble_eq_true rfl⟩ hW hl.1 rfl (Nat.le_of_ble_eq_true rfl) dX4_join_86 (Nat.zero_le _) (Nat.zero_le _) (fun H locs hW hS => ?_)
              refine lv_ior hx hb dX4_join_89 ?_
              refine lv_topi (fun x26 ex26 => ?_)
              refine lv_istore (lv' := [(6, .int x26), (5, .int cn), (0, .ref (ad 0 0)), (1, .int a), (2, .int b), (3, .int c9), (4, .int d9)]) hx hb dX4_join_90 hl (by decide) rfl (fun ls hl => ?_)
              have hX : kJoinX a b c9 d9 = x26 := by rw [ex26, ex25, ex24]; rfl
              refine lv_iload_n hx hb dX4_join_92 rfl (lv_at hl 5 rfl) ?_
              refine lv_iconst (v := (-1)) hx hb dX4_join_93 (by decide) ?_
              refine lv_icmp_ne (tgt := 103) hx hb dX4_join_94 (by decide) (fun _ => ?_) (fun c_27 => absurd c_27 c_3)
              refine lv_iload hx hb dX4_join_103 (lv_at hl 0 rfl) ?_
              refine w_cS1 X hS (m_J6_bitCount_0f7a4 l G (Wd G ad nA nK I J) x26 ) rfl rfl g259 g6 g257 g258 hd_J6_bitCount_0f7a4 ⟨Nat.le_of_ble_eq_true rfl, Nat.le_of_ble_eq_true rfl⟩ hW hl.1 rfl (Nat.le_of_ble_eq_true rfl) dX4_join_105 (Nat.zero_le _) (Nat.zero_le _) (fun H locs hW hS => ?_)
              refine lv_iload hx hb dX4_join_108 (lv_at hl 1 rfl) ?_
              refine lv_icmp_ne (tgt := 122) hx hb dX4_join_110 (by decide) (fun c_28 => ?_) (fun c_28 => ?_)
              · skip
                refine lv_sipush (v := (-1003)) hx hb dX4_join_122 (by decide) ?_
                refine W.widen (k := 3) (n := 20) (Nat.zero_le _) (Nat.zero_le _) ?_
                exact w_iret X hr hlk hS (by simp only [cJoin, cJoinOk1, cJoinOk2, hcn, hX]; simp [c_1, c_2, c_3, c_22, c_23, c_28]) ⟨ad, fun _ _ _ => rfl, hW.to3 (by simp only [cJoin, cJoinOk1, cJoinOk2, hcn, hX]; simp [c_1, c_2, c_3, c_22, c_23, c_28]) rfl (by simp only [cJoin, cJoinOk1, cJoinOk2, hcn, hX]; simp [c_1, c_2, c_3, c_22, c_23, c_28]) (by simp only [cJoin, cJoinOk1, cJoinOk2, hcn, hX]; simp [c_1, c_2, c_3, c_22, c_23, c_28])⟩ dX4_join_125
              · skip
                refine lv_aload_n hx hb dX4_join_113 rfl (lv_at hl 2 rfl) ?_
                refine lv_iload hx hb dX4_join_114 (lv_at hl 0 rfl) ?_
                refine w_cV1 X hS (m_X4_areAllPlain l G ad nA nK I J x26 hs) rfl rfl g266 g1 g263 g265 p10 hd_X4_areAllPlain ⟨Nat.le_of_ble_eq_true rfl, Nat.le_of_ble_eq_true rfl⟩ (k_rec X hW 0 0 Nat.zero_lt_one rfl rfl) hW hl.1 rfl (Nat.le_of_ble_eq_true rfl) dX4_join_116 (Nat.zero_le _) (Nat.zero_le _) (fun H locs hW hS => ?_)
                refine lb_if_ne (tgt := 126) hx hb dX4_join_119 (by decide) (fun c_29 => ?_) (fun c_29 => ?_)
                · skip
                  refine lv_aload_n hx hb dX4_join_126 rfl (lv_at hl 2 rfl) ?_
                  refine w_get (v := .int (nI nA)) X hW 0 0 Nat.zero_lt_one rfl rfl inG4 4 (by decide) g53 (congrArg (fun z => some (Value.int z)) hs.1) dX4_join_127 ?_
                  refine lv_aload_n hx hb dX4_join_130 rfl (lv_at hl 2 rfl) ?_
                  refine w_get X hW 0 0 Nat.zero_lt_one rfl rfl inG4 2 (by decide) g51 rfl dX4_join_131 ?_
                  refine w_alen X hW 6 0 Nat.zero_lt_one rfl 3 rfl (v := 24) rfl dX4_join_134 ?_
                  refine lv_icmp_lt (tgt := 142) hx hb dX4_join_135 (by decide) (fun c_30 => ?_) (fun c_30 => ?_)
                  · skip
                    have h24 : nA < 24 := k_lt24 (N := 24) (by omega) (by decide) rfl c_30
                    refine w_newo X hW hS (ci := 0) (fs := [.int 0, .int 0, .int 0, .null, .null, .long 0, .int 0, .int 0, .int 0, .int 0, .long 0, .int 0, .int 0]) rfl inG0 tyX0 tyX0_ok g45 g181 g5 (fun j hj => by rcases (show j = 0 ∨ j = 1 ∨ j = 2 ∨ j = 3 ∨ j = 4 ∨ j = 5 ∨ j = 6 ∨ j = 7 ∨ j = 8 ∨ j = 9 ∨ j = 10 ∨ j = 11 ∨ j = 12 by omega) with rfl | rfl | rfl | rfl | rfl | rfl | rfl | rfl | rfl | rfl | rfl | rfl | rfl <;> rfl) (Nat.le_of_ble_eq_true rfl) (Nat.le_of_ble_eq_true rfl) dX4_join_142 (fun q9 H hW hS hat hqG hqn => ?_)
                    refine W.cs (cells' := 1) (slots' := 13) rfl rfl ?_
                    refine lv_dup hx hb dX4_join_145 rfl ?_
                    refine lv_aload_n hx hb dX4_join_146 rfl (lv_at hl 2 rfl) ?_
                    refine w_get (v := .int (nI nA)) X hW 0 0 Nat.zero_lt_one rfl rfl inG4 4 (by decide) g53 (congrArg (fun z => some (Value.int z)) hs.1) dX4_join_147 ?_
                    refine lv_iconst (v := 1) hx hb dX4_join_150 (by decide) ?_
                    refine lv_iconst (v := (-1)) hx hb dX4_join_151 (by decide) ?_
                    have hGs : G.2.2.1 ≤ H.size := Nat.le_trans X.2.2.2.2.2.1 hS.1
                    refine w_cI X hS (m_X0_init l G q9 H hqG hat (nI nA) 1 (-1)) g184 g5 g182 g183 rfl hd_X0_init ⟨Nat.le_of_ble_eq_true rfl, Nat.le_of_ble_eq_true rfl⟩ rfl hl.1 rfl (Nat.le_of_ble_eq_true rfl) dX4_join_152 ⟨Nat.le_of_ble_eq_true rfl, Nat.le_of_ble_eq_true rfl⟩ (fun H1 locs1 hB hS1 => ?_)
                    clear hS
                    refine W.cs (cells' := 3) (slots' := 20) rfl rfl ?_
                    obtain ⟨i9, e9⟩ : ∃ z, z = nA := ⟨_, rfl⟩
                    subst e9
                    obtain ⟨q1, q2, hNw⟩ := hB
                    obtain ⟨ad1, hold, had, hW1⟩ := k_grow8 hW hqn hqG hGs hz hNw
                    have ea : ad 0 0 = ad1 0 0 := (hold 0 0 Nat.zero_lt_one).symm
                    have ea2 : ad 7 0 = ad1 7 0 := (hold 7 0 Nat.zero_lt_one).symm
                    rw [← had]
                    try rw [ea2]
                    have hl : lv_has ls 8 [(6, .int x26), (5, .int cn), (0, .ref (ad1 0 0)), (1, .int a), (2, .int b), (3, .int c9), (4, .int d9)] := by have h := hl; rw [ea] at h; exact h
                    clear hW hat hqn hNw had ea ea2
                    obtain ⟨ad9, e8⟩ : ∃ z, z = ad := ⟨_, rfl⟩
                    subst e8
                    obtain ⟨ad, e8⟩ : ∃ z, z = ad1 := ⟨_, rfl⟩
                    subst e8
                    obtain ⟨nA, eN⟩ : ∃ z, z = i9 + 1 := ⟨_, rfl⟩
                    have hi9 : i9 < nA := by omega
                    have hs9 := hs
                    obtain ⟨I9, eI9⟩ : ∃ z, z = kNew i9 1 (-1) I := ⟨_, rfl⟩
                    obtain ⟨J9, eJ9⟩ : ∃ z, z = kNewJ i9 J := ⟨_, rfl⟩
                    have hW : Wd G ad nA nK I9 J9 H1 := hW1.to3 eN.symm rfl eI9.symm eJ9.symm
                    clear hW1 hGs
                    have hS := hS1
                    clear hS1
                    generalize H1 = H at hW hS ⊢
                    generalize locs1 = locs at hS ⊢
                    have hfin : cJoin i9 nK a b c9 d9 (I, J) = ((cJoin2 i9 nK a b c9 d9 (I, J)).1 8 i9 0, i9 + 1, cJoin2 i9 nK a b c9 d9 (I, J)) := by simp only [cJoin, cJoinOk1, cJoinOk2, hcn, hX]; simp [c_1, c_2, c_3, c_22, c_23, c_28, c_29, c_30]
                    refine lv_astore (lv' := [(7, .ref (ad 8 i9)), (6, .int x26), (5, .int cn), (0, .ref (ad 0 0)), (1, .int a), (2, .int b), (3, .int c9), (4, .int d9)]) hx hb dX4_join_155 hl (by decide) rfl (fun ls hl => ?_)
                    refine lv_aload hx hb dX4_join_157 (lv_at hl 0 rfl) ?_
                    refine lv_iload_n hx hb dX4_join_159 rfl (lv_at hl 4 rfl) ?_
                    refine lv_iload_n hx hb dX4_join_160 rfl (lv_at hl 5 rfl) ?_
                    refine lv_iload_n hx hb dX4_join_161 rfl (lv_at hl 6 rfl) ?_
                    refine lv_iload hx hb dX4_join_162 (lv_at hl 7 rfl) ?_
                    refine w_cVv X hS (m_X0_putParts l G ad nA nK I9 J9 i9 a b c9 d9 hi9) rfl rfl g278 g5 g275 g276 g277 hd_X0_putParts ⟨Nat.le_of_ble_eq_true rfl, Nat.le_of_ble_eq_true rfl⟩ (k_rec X hW 8 i9 hi9 rfl rfl) hW hl.1 rfl (Nat.le_of_ble_eq_true rfl) dX4_join_164 (Nat.le_of_ble_eq_true rfl) (Nat.le_of_ble_eq_true rfl) (fun H locs hW hS => ?_)
                    obtain ⟨I31, eI31⟩ : ∃ z, z = kPutP i9 a b c9 d9 I9 := ⟨_, rfl⟩
                    rw [← eI31] at hW
                    have hk9 : k_S i9 nK I31 := by subst eI31 eJ9 eI9; exact kJoin_S hs9
                    have hn9 : i9 + 1 = nA := eN.symm
                    refine lv_aload_n hx hb dX4_join_167 rfl (lv_at hl 3 rfl) ?_
                    refine lv_aload hx hb dX4_join_168 (lv_at hl 0 rfl) ?_
                    refine w_cVv X hS (m_X4_keep l G ad nA nK I31 J9 i9 hi9 (by first | assumption | omega) (by first | assumption | omega) (by first | assumption | omega)) rfl rfl g248 g1 g245 g247 p8 hd_X4_keep ⟨Nat.le_of_ble_eq_true rfl, Nat.le_of_ble_eq_true rfl⟩ (k_rec X hW 0 0 Nat.zero_lt_one rfl rfl) hW hl.1 rfl (Nat.le_of_ble_eq_true rfl) dX4_join_170 (Nat.le_of_ble_eq_true rfl) (Nat.le_of_ble_eq_true rfl) (fun H locs hW hS => ?_)
                    obtain ⟨I32, eI32⟩ : ∃ z, z = (kSettle nA nK (kKeep i9 I31, J9)).1 := ⟨_, rfl⟩
                    rw [← eI32] at hW
                    obtain ⟨J32, eJ32⟩ : ∃ z, z = (kSettle nA nK (kKeep i9 I31, J9)).2 := ⟨_, rfl⟩
                    rw [← eJ32] at hW
                    refine lv_aload hx hb dX4_join_173 (lv_at hl 0 rfl) ?_
                    refine w_get X hW 8 i9 hi9 rfl rfl inG0 0 (by decide) g187 rfl dX4_join_175 ?_
                    exact w_iret X hr hlk hS (by rw [hfin]; subst eJ32 eI32 eI31 eJ9 eI9; subst eN; rfl) ⟨ad, hold, hW.to3 (by rw [hfin]; exact eN) rfl (by rw [hfin]; subst eJ32 eI32 eI31 eJ9 eI9; subst eN; rfl) (by rw [hfin]; subst eJ32 eI32 eI31 eJ9 eI9; subst eN; rfl)⟩ dX4_join_178
                  · skip
                    refine lv_sipush (v := (-1004)) hx hb dX4_join_138 (by decide) ?_
                    refine W.widen (k := 3) (n := 20) (Nat.zero_le _) (Nat.zero_le _) ?_
                    exact w_iret X hr hlk hS (by simp only [cJoin, cJoinOk1, cJoinOk2, hcn, hX]; simp [c_1, c_2, c_3, c_22, c_23, c_28, c_29, c_30]) ⟨ad, fun _ _ _ => rfl, hW.to3 (by simp only [cJoin, cJoinOk1, cJoinOk2, hcn, hX]; simp [c_1, c_2, c_3, c_22, c_23, c_28, c_29, c_30]) rfl (by simp only [cJoin, cJoinOk1, cJoinOk2, hcn, hX]; simp [c_1, c_2, c_3, c_22, c_23, c_28, c_29, c_30]) (by simp only [cJoin, cJoinOk1, cJoinOk2, hcn, hX]; simp [c_1, c_2, c_3, c_22, c_23, c_28, c_29, c_30])⟩ dX4_join_141
                · skip
                  refine lv_sipush (v := (-1003)) hx hb dX4_join_122 (by decide) ?_
                  refine W.widen (k := 3) (n := 20) (Nat.zero_le _) (Nat.zero_le _) ?_
                  exact w_iret X hr hlk hS (by simp only [cJoin, cJoinOk1, cJoinOk2, hcn, hX]; simp [c_1, c_2, c_3, c_22, c_23, c_28, c_29]) ⟨ad, fun _ _ _ => rfl, hW.to3 (by simp only [cJoin, cJoinOk1, cJoinOk2, hcn, hX]; simp [c_1, c_2, c_3, c_22, c_23, c_28, c_29]) rfl (by simp only [cJoin, cJoinOk1, cJoinOk2, hcn, hX]; simp [c_1, c_2, c_3, c_22, c_23, c_28, c_29]) (by simp only [cJoin, cJoinOk1, cJoinOk2, hcn, hX]; simp [c_1, c_2, c_3, c_22, c_23, c_28, c_29])⟩ dX4_join_125
            refine lv_iload_n hx hb dX4_join_48 rfl (lv_at hl 3 rfl) ?_
            refine lv_iconst (v := (-1)) hx hb dX4_join_49 (by decide) ?_
            refine lv_icmp_ne (tgt := 57) hx hb dX4_join_50 (by decide) (fun _ => ?_) (fun c_33 => absurd c_33 c_3)
            refine lv_iload hx hb dX4_join_57 (lv_at hl 4 rfl) ?_
            refine lv_iconst (v := (-1)) hx hb dX4_join_59 (by decide) ?_
            refine lv_icmp_ne (tgt := 67) hx hb dX4_join_60 (by decide) (fun c_34 => absurd c_23 c_34) (fun _ => ?_)
            refine lv_iconst (v := 3) hx hb dX4_join_63 (by decide) ?_
            refine lv_goto (tgt := 68) hx hb dX4_join_64 (by decide) ?_
            refine lv_istore (lv' := [(5, .int 3), (0, .ref (ad 0 0)), (1, .int a), (2, .int b), (3, .int c9), (4, .int d9)]) hx hb dX4_join_68 hl (by decide) rfl (fun ls hl => ?_)
            exact join70 3 (by simp [kJoinN, c_1, c_2, c_3, c_22, c_23]) _ _ hW hS ls (lv_sub hl [0, 1, 2, 3, 4, 5] rfl)
          · skip
            refine lv_aload_n hx hb dX4_join_35 rfl (lv_at hl 0 rfl) ?_
            refine lv_iload hx hb dX4_join_36 (lv_at hl 4 rfl) ?_
            refine w_cV1 X hS (m_X4_isAnswer l G ad nA nK I J d9 hs) rfl rfl g256 g1 g253 g255 p9 hd_X4_isAnswer ⟨Nat.le_of_ble_eq_true rfl, Nat.le_of_ble_eq_true rfl⟩ (k_rec X hW 0 0 Nat.zero_lt_one rfl rfl) hW hl.1 rfl (Nat.le_of_ble_eq_true rfl) dX4_join_38 (Nat.zero_le _) (Nat.zero_le _) (fun H locs hW hS => ?_)
            refine lb_if_ne (tgt := 48) hx hb dX4_join_41 (by decide) (fun c_35 => ?_) (fun c_35 => ?_)
            · skip
              have join70 : ∀ (cn : Int32), (kJoinN c9 d9 = cn) → ∀ (H : Heap) (locs : List Loc), Wd G ad nA nK I J H → va_S (k_A G) s.heap H locs → ∀ ls : Array Slot, lv_has ls 8 [(5, .int cn), (0, .ref (ad 0 0)), (1, .int a), (2, .int b), (3, .int c9), (4, .int d9)] → W p l e { frames := 6, cells := 3, slots := 20, locals := 133 } s m ([.ref (ad 0 0), .int a, .int b, .int c9, .int d9] : List Value).toArray below meth c H locs 0 0 (MQ below (k_Q G (some (.int ((cJoin nA nK a b c9 d9 (I, J)).1))) (fun H => ∃ ad' : Nat → Nat → Nat, (∀ c i, i < k_n nA nK c → ad' c i = ad c i) ∧ Wd G ad' (cJoin nA nK a b c9 d9 (I, J)).2.1 nK (cJoin nA nK a b c9 d9 (I, J)).2.2.1 (cJoin nA nK a b c9 d9 (I, J)).2.2.2 H)) ([.ref (ad 0 0), .int a, .int b, .int c9, .int d9] : List Value).toArray s 3 20 (k_A G)) (F0 m 70 ls []) := by
                intro cn hcn H locs hW hS ls hl
                refine lv_iload_n hx hb dX4_join_70 rfl (lv_at hl 2 rfl) ?_
                refine w_cS1 X hS (m_X4_bit l G (Wd G ad nA nK I J) a ) rfl rfl g110 g1 g131 g109 hd_X4_bit ⟨Nat.le_of_ble_eq_true rfl, Nat.le_of_ble_eq_true rfl⟩ hW hl.1 rfl (Nat.le_of_ble_eq_true rfl) dX4_join_71 (Nat.zero_le _) (Nat.zero_le _) (fun H locs hW hS => ?_)
                refine lv_iload_n hx hb dX4_join_74 rfl (lv_at hl 3 rfl) ?_
                refine w_cS1 X hS (m_X4_bit l G (Wd G ad nA nK I J) b ) rfl rfl g110 g1 g131 g109 hd_X4_bit ⟨Nat.le_of_ble_eq_true rfl, Nat.le_of_ble_eq_true rfl⟩ hW hl.1 rfl (Nat.le_of_ble_eq_true rfl) dX4_join_75 (Nat.zero_le _) (Nat.zero_le _) (fun H locs hW hS => ?_)
                refine lv_ior hx hb dX4_join_78 ?_
                refine lv_topi (fun x36 ex36 => ?_)
                refine lv_iload_n hx hb dX4_join_79 rfl (lv_at hl 4 rfl) ?_
                refine w_cS1 X hS (m_X4_bit l G (Wd G ad nA nK I J) c9 ) rfl rfl g110 g1 g131 g109 hd_X4_bit ⟨Nat.le_of_ble_eq_true rfl, Nat.le_of_ble_eq_true rfl⟩ hW hl.1 rfl (Nat.le_of_ble_eq_true rfl) dX4_join_80 (Nat.zero_le _) (Nat.zero_le _) (fun H locs hW hS => ?_)
                refine lv_ior hx hb dX4_join_83 ?_
                refine lv_topi (fun x37 ex37 => ?_)
                refine lv_iload hx hb dX4_join_84 (lv_at hl 5 rfl) ?_
                refine w_cS1 X hS (m_X4_bit l G (Wd G ad nA nK I J) d9 ) rfl rfl g110 g1 g131 g109 hd_X4_bit ⟨Nat.le_of_ble_eq_true rfl, Nat.le_of_ble_eq_true rfl⟩ hW hl.1 rfl (Nat.le_of_ble_eq_true rfl) dX4_join_86 (Nat.zero_le _) (Nat.zero_le _) (fun H locs hW hS => ?_)
                refine lv_ior hx hb dX4_join_89 ?_
                refine lv_topi (fun x38 ex38 => ?_)
                refine lv_istore (lv' := [(6, .int x38), (5, .int cn), (0, .ref (ad 0 0)), (1, .int a), (2, .int b), (3, .int c9), (4, .int d9)]) hx hb dX4_join_90 hl (by decide) rfl (fun ls hl => ?_)
                have hX : kJoinX a b c9 d9 = x38 := by rw [ex38, ex37, ex36]; rfl
                refine lv_iload_n hx hb dX4_join_92 rfl (lv_at hl 5 rfl) ?_
                refine lv_iconst (v := (-1)) hx hb dX4_join_93 (by decide) ?_
                refine lv_icmp_ne (tgt := 103) hx hb dX4_join_94 (by decide) (fun _ => ?_) (fun c_39 => absurd c_39 c_3)
                refine lv_iload hx hb dX4_join_103 (lv_at hl 0 rfl) ?_
                refine w_cS1 X hS (m_J6_bitCount_0f7a4 l G (Wd G ad nA nK I J) x38 ) rfl rfl g259 g6 g257 g258 hd_J6_bitCount_0f7a4 ⟨Nat.le_of_ble_eq_true rfl, Nat.le_of_ble_eq_true rfl⟩ hW hl.1 rfl (Nat.le_of_ble_eq_true rfl) dX4_join_105 (Nat.zero_le _) (Nat.zero_le _) (fun H locs hW hS => ?_)
                refine lv_iload hx hb dX4_join_108 (lv_at hl 1 rfl) ?_
                refine lv_icmp_ne (tgt := 122) hx hb dX4_join_110 (by decide) (fun c_40 => ?_) (fun c_40 => ?_)
                · skip
                  refine lv_sipush (v := (-1003)) hx hb dX4_join_122 (by decide) ?_
                  refine W.widen (k := 3) (n := 20) (Nat.zero_le _) (Nat.zero_le _) ?_
                  exact w_iret X hr hlk hS (by simp only [cJoin, cJoinOk1, cJoinOk2, hcn, hX]; simp [c_1, c_2, c_3, c_22, c_23, c_35, c_40]) ⟨ad, fun _ _ _ => rfl, hW.to3 (by simp only [cJoin, cJoinOk1, cJoinOk2, hcn, hX]; simp [c_1, c_2, c_3, c_22, c_23, c_35, c_40]) rfl (by simp only [cJoin, cJoinOk1, cJoinOk2, hcn, hX]; simp [c_1, c_2, c_3, c_22, c_23, c_35, c_40]) (by simp only [cJoin, cJoinOk1, cJoinOk2, hcn, hX]; simp [c_1, c_2, c_3, c_22, c_23, c_35, c_40])⟩ dX4_join_125
                · skip
                  refine lv_aload_n hx hb dX4_join_113 rfl (lv_at hl 2 rfl) ?_
                  refine lv_iload hx hb dX4_join_114 (lv_at hl 0 rfl) ?_
                  refine w_cV1 X hS (m_X4_areAllPlain l G ad nA nK I J x38 hs) rfl rfl g266 g1 g263 g265 p10 hd_X4_areAllPlain ⟨Nat.le_of_ble_eq_true rfl, Nat.le_of_ble_eq_true rfl⟩ (k_rec X hW 0 0 Nat.zero_lt_one rfl rfl) hW hl.1 rfl (Nat.le_of_ble_eq_true rfl) dX4_join_116 (Nat.zero_le _) (Nat.zero_le _) (fun H locs hW hS => ?_)
                  refine lb_if_ne (tgt := 126) hx hb dX4_join_119 (by decide) (fun c_41 => ?_) (fun c_41 => ?_)
                  · skip
                    refine lv_aload_n hx hb dX4_join_126 rfl (lv_at hl 2 rfl) ?_
                    refine w_get (v := .int (nI nA)) X hW 0 0 Nat.zero_lt_one rfl rfl inG4 4 (by decide) g53 (congrArg (fun z => some (Value.int z)) hs.1) dX4_join_127 ?_
                    refine lv_aload_n hx hb dX4_join_130 rfl (lv_at hl 2 rfl) ?_
                    refine w_get X hW 0 0 Nat.zero_lt_one rfl rfl inG4 2 (by decide) g51 rfl dX4_join_131 ?_
                    refine w_alen X hW 6 0 Nat.zero_lt_one rfl 3 rfl (v := 24) rfl dX4_join_134 ?_
                    refine lv_icmp_lt (tgt := 142) hx hb dX4_join_135 (by decide) (fun c_42 => ?_) (fun c_42 => ?_)
                    · skip
                      have h24 : nA < 24 := k_lt24 (N := 24) (by omega) (by decide) rfl c_42
                      refine w_newo X hW hS (ci := 0) (fs := [.int 0, .int 0, .int 0, .null, .null, .long 0, .int 0, .int 0, .int 0, .int 0, .long 0, .int 0, .int 0]) rfl inG0 tyX0 tyX0_ok g45 g181 g5 (fun j hj => by rcases (show j = 0 ∨ j = 1 ∨ j = 2 ∨ j = 3 ∨ j = 4 ∨ j = 5 ∨ j = 6 ∨ j = 7 ∨ j = 8 ∨ j = 9 ∨ j = 10 ∨ j = 11 ∨ j = 12 by omega) with rfl | rfl | rfl | rfl | rfl | rfl | rfl | rfl | rfl | rfl | rfl | rfl | rfl <;> rfl) (Nat.le_of_ble_eq_true rfl) (Nat.le_of_ble_eq_true rfl) dX4_join_142 (fun q9 H hW hS hat hqG hqn => ?_)
                      refine W.cs (cells' := 1) (slots' := 13) rfl rfl ?_
                      refine lv_dup hx hb dX4_join_145 rfl ?_
                      refine lv_aload_n hx hb dX4_join_146 rfl (lv_at hl 2 rfl) ?_
                      refine w_get (v := .int (nI nA)) X hW 0 0 Nat.zero_lt_one rfl rfl inG4 4 (by decide) g53 (congrArg (fun z => some (Value.int z)) hs.1) dX4_join_147 ?_
                      refine lv_iconst (v := 1) hx hb dX4_join_150 (by decide) ?_
                      refine lv_iconst (v := (-1)) hx hb dX4_join_151 (by decide) ?_
                      have hGs : G.2.2.1 ≤ H.size := Nat.le_trans X.2.2.2.2.2.1 hS.1
                      refine w_cI X hS (m_X0_init l G q9 H hqG hat (nI nA) 1 (-1)) g184 g5 g182 g183 rfl hd_X0_init ⟨Nat.le_of_ble_eq_true rfl, Nat.le_of_ble_eq_true rfl⟩ rfl hl.1 rfl (Nat.le_of_ble_eq_true rfl) dX4_join_152 ⟨Nat.le_of_ble_eq_true rfl, Nat.le_of_ble_eq_true rfl⟩ (fun H1 locs1 hB hS1 => ?_)
                      clear hS
                      refine W.cs (cells' := 3) (slots' := 20) rfl rfl ?_
                      obtain ⟨i9, e9⟩ : ∃ z, z = nA := ⟨_, rfl⟩
                      subst e9
                      obtain ⟨q1, q2, hNw⟩ := hB
                      obtain ⟨ad1, hold, had, hW1⟩ := k_grow8 hW hqn hqG hGs hz hNw
                      have ea : ad 0 0 = ad1 0 0 := (hold 0 0 Nat.zero_lt_one).symm
                      have ea2 : ad 7 0 = ad1 7 0 := (hold 7 0 Nat.zero_lt_one).symm
                      rw [← had]
                      try rw [ea2]
                      have hl : lv_has ls 8 [(6, .int x38), (5, .int cn), (0, .ref (ad1 0 0)), (1, .int a), (2, .int b), (3, .int c9), (4, .int d9)] := by have h := hl; rw [ea] at h; exact h
                      clear hW hat hqn hNw had ea ea2
                      obtain ⟨ad9, e8⟩ : ∃ z, z = ad := ⟨_, rfl⟩
                      subst e8
                      obtain ⟨ad, e8⟩ : ∃ z, z = ad1 := ⟨_, rfl⟩
                      subst e8
                      obtain ⟨nA, eN⟩ : ∃ z, z = i9 + 1 := ⟨_, rfl⟩
                      have hi9 : i9 < nA := by omega
                      have hs9 := hs
                      obtain ⟨I9, eI9⟩ : ∃ z, z = kNew i9 1 (-1) I := ⟨_, rfl⟩
                      obtain ⟨J9, eJ9⟩ : ∃ z, z = kNewJ i9 J := ⟨_, rfl⟩
                      have hW : Wd G ad nA nK I9 J9 H1 := hW1.to3 eN.symm rfl eI9.symm eJ9.symm
                      clear hW1 hGs
                      have hS := hS1
                      clear hS1
                      generalize H1 = H at hW hS ⊢
                      generalize locs1 = locs at hS ⊢
                      have hfin : cJoin i9 nK a b c9 d9 (I, J) = ((cJoin2 i9 nK a b c9 d9 (I, J)).1 8 i9 0, i9 + 1, cJoin2 i9 nK a b c9 d9 (I, J)) := by simp only [cJoin, cJoinOk1, cJoinOk2, hcn, hX]; simp [c_1, c_2, c_3, c_22, c_23, c_35, c_40, c_41, c_42]
                      refine lv_astore (lv' := [(7, .ref (ad 8 i9)), (6, .int x38), (5, .int cn), (0, .ref (ad 0 0)), (1, .int a), (2, .int b), (3, .int c9), (4, .int d9)]) hx hb dX4_join_155 hl (by decide) rfl (fun ls hl => ?_)
                      refine lv_aload hx hb dX4_join_157 (lv_at hl 0 rfl) ?_
                      refine lv_iload_n hx hb dX4_join_159 rfl (lv_at hl 4 rfl) ?_
                      refine lv_iload_n hx hb dX4_join_160 rfl (lv_at hl 5 rfl) ?_
                      refine lv_iload_n hx hb dX4_join_161 rfl (lv_at hl 6 rfl) ?_
                      refine lv_iload hx hb dX4_join_162 (lv_at hl 7 rfl) ?_
                      refine w_cVv X hS (m_X0_putParts l G ad nA nK I9 J9 i9 a b c9 d9 hi9) rfl rfl g278 g5 g275 g276 g277 hd_X0_putParts ⟨Nat.le_of_ble_eq_true rfl, Nat.le_of_ble_eq_true rfl⟩ (k_rec X hW 8 i9 hi9 rfl rfl) hW hl.1 rfl (Nat.le_of_ble_eq_true rfl) dX4_join_164 (Nat.le_of_ble_eq_true rfl) (Nat.le_of_ble_eq_true rfl) (fun H locs hW hS => ?_)
                      obtain ⟨I43, eI43⟩ : ∃ z, z = kPutP i9 a b c9 d9 I9 := ⟨_, rfl⟩
                      rw [← eI43] at hW
                      have hk9 : k_S i9 nK I43 := by subst eI43 eJ9 eI9; exact kJoin_S hs9
                      have hn9 : i9 + 1 = nA := eN.symm
                      refine lv_aload_n hx hb dX4_join_167 rfl (lv_at hl 3 rfl) ?_
                      refine lv_aload hx hb dX4_join_168 (lv_at hl 0 rfl) ?_
                      refine w_cVv X hS (m_X4_keep l G ad nA nK I43 J9 i9 hi9 (by first | assumption | omega) (by first | assumption | omega) (by first | assumption | omega)) rfl rfl g248 g1 g245 g247 p8 hd_X4_keep ⟨Nat.le_of_ble_eq_true rfl, Nat.le_of_ble_eq_true rfl⟩ (k_rec X hW 0 0 Nat.zero_lt_one rfl rfl) hW hl.1 rfl (Nat.le_of_ble_eq_true rfl) dX4_join_170 (Nat.le_of_ble_eq_true rfl) (Nat.le_of_ble_eq_true rfl) (fun H locs hW hS => ?_)
                      obtain ⟨I44, eI44⟩ : ∃ z, z = (kSettle nA nK (kKeep i9 I43, J9)).1 := ⟨_, rfl⟩
                      rw [← eI44] at hW
                      obtain ⟨J44, eJ44⟩ : ∃ z, z = (kSettle nA nK (kKeep i9 I43, J9)).2 := ⟨_, rfl⟩
                      rw [← eJ44] at hW
                      refine lv_aload hx hb dX4_join_173 (lv_at hl 0 rfl) ?_
                      refine w_get X hW 8 i9 hi9 rfl rfl inG0 0 (by decide) g187 rfl dX4_join_175 ?_
                      exact w_iret X hr hlk hS (by rw [hfin]; subst eJ44 eI44 eI43 eJ9 eI9; subst eN; rfl) ⟨ad, hold, hW.to3 (by rw [hfin]; exact eN) rfl (by rw [hfin]; subst eJ44 eI44 eI43 eJ9 eI9; subst eN; rfl) (by rw [hfin]; subst eJ44 eI44 eI43 eJ9 eI9; subst eN; rfl)⟩ dX4_join_178
                    · skip
                      refine lv_sipush (v := (-1004)) hx hb dX4_join_138 (by decide) ?_
                      refine W.widen (k := 3) (n := 20) (Nat.zero_le _) (Nat.zero_le _) ?_
                      exact w_iret X hr hlk hS (by simp only [cJoin, cJoinOk1, cJoinOk2, hcn, hX]; simp [c_1, c_2, c_3, c_22, c_23, c_35, c_40, c_41, c_42]) ⟨ad, fun _ _ _ => rfl, hW.to3 (by simp only [cJoin, cJoinOk1, cJoinOk2, hcn, hX]; simp [c_1, c_2, c_3, c_22, c_23, c_35, c_40, c_41, c_42]) rfl (by simp only [cJoin, cJoinOk1, cJoinOk2, hcn, hX]; simp [c_1, c_2, c_3, c_22, c_23, c_35, c_40, c_41, c_42]) (by simp only [cJoin, cJoinOk1, cJoinOk2, hcn, hX]; simp [c_1, c_2, c_3, c_22, c_23, c_35, c_40, c_41, c_42])⟩ dX4_join_141
                  · skip
                    refine lv_sipush (v := (-1003)) hx hb dX4_join_122 (by decide) ?_
                    refine W.widen (k := 3) (n := 20) (Nat.zero_le _) (Nat.zero_le _) ?_
                    exact w_iret X hr hlk hS (by simp only [cJoin, cJoinOk1, cJoinOk2, hcn, hX]; simp [c_1, c_2, c_3, c_22, c_23, c_35, c_40, c_41]) ⟨ad, fun _ _ _ => rfl, hW.to3 (by simp only [cJoin, cJoinOk1, cJoinOk2, hcn, hX]; simp [c_1, c_2, c_3, c_22, c_23, c_35, c_40, c_41]) rfl (by simp only [cJoin, cJoinOk1, cJoinOk2, hcn, hX]; simp [c_1, c_2, c_3, c_22, c_23, c_35, c_40, c_41]) (by simp only [cJoin, cJoinOk1, cJoinOk2, hcn, hX]; simp [c_1, c_2, c_3, c_22, c_23, c_35, c_40, c_41])⟩ dX4_join_125
              refine lv_iload_n hx hb dX4_join_48 rfl (lv_at hl 3 rfl) ?_
              refine lv_iconst (v := (-1)) hx hb dX4_join_49 (by decide) ?_
              refine lv_icmp_ne (tgt := 57) hx hb dX4_join_50 (by decide) (fun _ => ?_) (fun c_45 => absurd c_45 c_3)
              refine lv_iload hx hb dX4_join_57 (lv_at hl 4 rfl) ?_
              refine lv_iconst (v := (-1)) hx hb dX4_join_59 (by decide) ?_
              refine lv_icmp_ne (tgt := 67) hx hb dX4_join_60 (by decide) (fun _ => ?_) (fun c_46 => absurd c_46 c_23)
              refine lv_iconst (v := 4) hx hb dX4_join_67 (by decide) ?_
              refine lv_istore (lv' := [(5, .int 4), (0, .ref (ad 0 0)), (1, .int a), (2, .int b), (3, .int c9), (4, .int d9)]) hx hb dX4_join_68 hl (by decide) rfl (fun ls hl => ?_)
              exact join70 4 (by simp [kJoinN, c_1, c_2, c_3, c_22, c_23, c_35]) _ _ hW hS ls (lv_sub hl [0, 1, 2, 3, 4, 5] rfl)
            · skip
              refine lv_sipush (v := (-1001)) hx hb dX4_join_44 (by decide) ?_
              refine W.widen (k := 3) (n := 20) (Nat.zero_le _) (Nat.zero_le _) ?_
              exact w_iret X hr hlk hS (by simp [cJoin, cJoinOk1, cJoinOk2, kJoinX, c_1, c_2, c_3, c_22, c_23, c_35]) ⟨ad, fun _ _ _ => rfl, hW.to3 (by simp [cJoin, cJoinOk1, cJoinOk2, kJoinX, c_1, c_2, c_3, c_22, c_23, c_35]) rfl (by simp [cJoin, cJoinOk1, cJoinOk2, kJoinX, c_1, c_2, c_3, c_22, c_23, c_35]) (by simp [cJoin, cJoinOk1, cJoinOk2, kJoinX, c_1, c_2, c_3, c_22, c_23, c_35])⟩ dX4_join_47
