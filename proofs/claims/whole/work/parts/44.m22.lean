theorem k_one {G : k_G} {q : Nat} {e : va_E} {H : Heap} (h : va_at G.1 vwCl (q, e) H) : va_P G.1 vwCl [(q, e)] H := fun k x hk => by
  match k, hk with
  | 0, hk => cases hk; exact h
theorem kPutS_C {i : Nat} {a b c : Int32} {I : k_I} {k : Nat} (h : k ≠ 9) : kPutS i a b c I k = I k := kLoop_eq (g := fun I : k_I => I k) (fun _ _ => k_up_C h) _ _ _
theorem kPutP_C {i : Nat} {a b c d : Int32} {I : k_I} {k : Nat} (h : k ≠ 10) : kPutP i a b c d I k = I k := kLoop_eq (g := fun I : k_I => I k) (fun _ _ => k_up_C h) _ _ _
theorem kNew_C {n : Nat} {kd st : Int32} {I : k_I} {k : Nat} (h : k ≠ 8) (h9 : k ≠ 9) (h10 : k ≠ 10) : kNew n kd st I k = I k := (k_up_C h10).trans ((k_up_C h9).trans (k_up_C h))
theorem kAnsw_S {n nK m : Nat} {st a b c : Int32} {I : k_I} (h : k_S n nK I) : k_S n nK (kAns1 m (kPutS m a b c (kNew m 0 st I))) :=
  h.of ((k_up_C (by decide)).trans ((kPutS_C (by decide)).trans (kNew_C (by decide) (by decide) (by decide)))) ((k_up_C (by decide)).trans ((kPutS_C (by decide)).trans (kNew_C (by decide) (by decide) (by decide)))) ((k_up_C (by decide)).trans ((kPutS_C (by decide)).trans (kNew_C (by decide) (by decide) (by decide))))
theorem kJoin_S {n nK m : Nat} {a b c d : Int32} {I : k_I} (h : k_S n nK I) : k_S n nK (kPutP m a b c d (kNew m 1 (-1) I)) :=
  h.of ((kPutP_C (by decide)).trans (kNew_C (by decide) (by decide) (by decide))) ((kPutP_C (by decide)).trans (kNew_C (by decide) (by decide) (by decide))) ((kPutP_C (by decide)).trans (kNew_C (by decide) (by decide) (by decide)))
set_option maxHeartbeats 4000000 in
set_option maxRecDepth 100000 in
theorem m_X4_answer (l : Launch) (G : k_G) (ad : Nat → Nat → Nat) (nA nK : Nat) (I : k_I) (J : k_J) (x0 : Int64) (st : Int32) (a : Int32) (b : Int32) (c9 : Int32) (hs : k_S nA nK I) (hz : I 6 0 nA = 0) : k_Met l yX4_answer cX4_answer 8 (some FieldType.int) { frames := 6, cells := 3, slots := 20, locals := 133 } G [.ref (ad 0 0), .long (x0), .int st, .int a, .int b, .int c9] (Wd G ad nA nK I J) (some (.int ((cAnswer nA nK x0 st a b c9 (I, J)).1))) (fun H => ∃ ad' : Nat → Nat → Nat, (∀ c i, i < k_n nA nK c → ad' c i = ad c i) ∧ Wd G ad' (cAnswer nA nK x0 st a b c9 (I, J)).2.1 nK (cAnswer nA nK x0 st a b c9 (I, J)).2.2.1 (cAnswer nA nK x0 st a b c9 (I, J)).2.2.2 H) 3 20 := by
  refine k_body (by decide) (Nat.le_of_ble_eq_true rfl) ?_
  intro p e s m below meth c ls X hr hlk hnm hW hS hl
  have hx := X.1.1
  have hb := X.1.2.1
  have hG := X.1.2.2.2.2
  have hA24 := hs.2.2.1
  have hK30 := hs.2.2.2.1
  have hl : lv_has ls 8 [(0, .ref (ad 0 0)), (1, .long (x0)), (3, .int st), (4, .int a), (5, .int b), (6, .int c9)] := hl
  refine lv_lload_n hx hb dX4_answer_0 rfl (lv_at hl 1 rfl) ?_
  refine w_cS1 X hS (m_X4_isSetOfWords l G (Wd G ad nA nK I J) x0 ) rfl rfl g175 g1 g173 g174 hd_X4_isSetOfWords ⟨Nat.le_of_ble_eq_true rfl, Nat.le_of_ble_eq_true rfl⟩ hW hl.1 rfl (Nat.le_of_ble_eq_true rfl) dX4_answer_1 (Nat.zero_le _) (Nat.zero_le _) (fun H locs hW hS => ?_)
  refine lb_if_eq (tgt := 45) hx hb dX4_answer_4 (by decide) (fun c_1 => ?_) (fun c_1 => ?_)
  · skip
    refine lv_sipush (v := (-1002)) hx hb dX4_answer_45 (by decide) ?_
    refine W.widen (k := 3) (n := 20) (Nat.zero_le _) (Nat.zero_le _) ?_
    exact w_iret X hr hlk hS (by simp [cAnswer, cAnswerOk, c_1]) ⟨ad, fun _ _ _ => rfl, hW.to3 (by simp [cAnswer, cAnswerOk, c_1]) rfl (by simp [cAnswer, cAnswerOk, c_1]) (by simp [cAnswer, cAnswerOk, c_1])⟩ dX4_answer_48
  · skip
    refine lv_iload_n hx hb dX4_answer_7 rfl (lv_at hl 2 rfl) ?_
    refine lv_iconst (v := 0) hx hb dX4_answer_8 (by decide) ?_
    refine lv_sipush (v := 9999) hx hb dX4_answer_9 (by decide) ?_
    refine w_cS1 X hS (m_X4_within l G (Wd G ad nA nK I J) st 0 9999 ) rfl rfl g83 g1 g81 g82 hd_X4_within ⟨Nat.le_of_ble_eq_true rfl, Nat.le_of_ble_eq_true rfl⟩ hW hl.1 rfl (Nat.le_of_ble_eq_true rfl) dX4_answer_12 (Nat.zero_le _) (Nat.zero_le _) (fun H locs hW hS => ?_)
    refine lb_if_eq (tgt := 45) hx hb dX4_answer_15 (by decide) (fun c_2 => ?_) (fun c_2 => ?_)
    · skip
      refine lv_sipush (v := (-1002)) hx hb dX4_answer_45 (by decide) ?_
      refine W.widen (k := 3) (n := 20) (Nat.zero_le _) (Nat.zero_le _) ?_
      exact w_iret X hr hlk hS (by simp [cAnswer, cAnswerOk, c_1, c_2]) ⟨ad, fun _ _ _ => rfl, hW.to3 (by simp [cAnswer, cAnswerOk, c_1, c_2]) rfl (by simp [cAnswer, cAnswerOk, c_1, c_2]) (by simp [cAnswer, cAnswerOk, c_1, c_2])⟩ dX4_answer_48
    · skip
      refine lv_iconst (v := 0) hx hb dX4_answer_18 (by decide) ?_
      refine lv_iload hx hb dX4_answer_19 (lv_at hl 3 rfl) ?_
      refine w_cS1 X hS (m_X4_isSetOfValues l G (Wd G ad nA nK I J) 0 a ) rfl rfl g179 g1 g177 g178 hd_X4_isSetOfValues ⟨Nat.le_of_ble_eq_true rfl, Nat.le_of_ble_eq_true rfl⟩ hW hl.1 rfl (Nat.le_of_ble_eq_true rfl) dX4_answer_21 (Nat.zero_le _) (Nat.zero_le _) (fun H locs hW hS => ?_)
      refine lb_if_eq (tgt := 45) hx hb dX4_answer_24 (by decide) (fun c_3 => ?_) (fun c_3 => ?_)
      · skip
        refine lv_sipush (v := (-1002)) hx hb dX4_answer_45 (by decide) ?_
        refine W.widen (k := 3) (n := 20) (Nat.zero_le _) (Nat.zero_le _) ?_
        exact w_iret X hr hlk hS (by simp [cAnswer, cAnswerOk, c_1, c_2, c_3]) ⟨ad, fun _ _ _ => rfl, hW.to3 (by simp [cAnswer, cAnswerOk, c_1, c_2, c_3]) rfl (by simp [cAnswer, cAnswerOk, c_1, c_2, c_3]) (by simp [cAnswer, cAnswerOk, c_1, c_2, c_3])⟩ dX4_answer_48
      · skip
        refine lv_iconst (v := 1) hx hb dX4_answer_27 (by decide) ?_
        refine lv_iload hx hb dX4_answer_28 (lv_at hl 4 rfl) ?_
        refine w_cS1 X hS (m_X4_isSetOfValues l G (Wd G ad nA nK I J) 1 b ) rfl rfl g179 g1 g177 g178 hd_X4_isSetOfValues ⟨Nat.le_of_ble_eq_true rfl, Nat.le_of_ble_eq_true rfl⟩ hW hl.1 rfl (Nat.le_of_ble_eq_true rfl) dX4_answer_30 (Nat.zero_le _) (Nat.zero_le _) (fun H locs hW hS => ?_)
        refine lb_if_eq (tgt := 45) hx hb dX4_answer_33 (by decide) (fun c_4 => ?_) (fun c_4 => ?_)
        · skip
          refine lv_sipush (v := (-1002)) hx hb dX4_answer_45 (by decide) ?_
          refine W.widen (k := 3) (n := 20) (Nat.zero_le _) (Nat.zero_le _) ?_
          exact w_iret X hr hlk hS (by simp [cAnswer, cAnswerOk, c_1, c_2, c_3, c_4]) ⟨ad, fun _ _ _ => rfl, hW.to3 (by simp [cAnswer, cAnswerOk, c_1, c_2, c_3, c_4]) rfl (by simp [cAnswer, cAnswerOk, c_1, c_2, c_3, c_4]) (by simp [cAnswer, cAnswerOk, c_1, c_2, c_3, c_4])⟩ dX4_answer_48
        · skip
          refine lv_iconst (v := 2) hx hb dX4_answer_36 (by decide) ?_
          refine lv_iload hx hb dX4_answer_37 (lv_at hl 5 rfl) ?_
          refine w_cS1 X hS (m_X4_isSetOfValues l G (Wd G ad nA nK I J) 2 c9 ) rfl rfl g179 g1 g177 g178 hd_X4_isSetOfValues ⟨Nat.le_of_ble_eq_true rfl, Nat.le_of_ble_eq_true rfl⟩ hW hl.1 rfl (Nat.le_of_ble_eq_true rfl) dX4_answer_39 (Nat.zero_le _) (Nat.zero_le _) (fun H locs hW hS => ?_)
          refine lb_if_ne (tgt := 49) hx hb dX4_answer_42 (by decide) (fun c_5 => ?_) (fun c_5 => ?_)
          · skip
            refine lv_aload_n hx hb dX4_answer_49 rfl (lv_at hl 0 rfl) ?_
            refine w_get (v := .int (nI nA)) X hW 0 0 Nat.zero_lt_one rfl rfl inG4 4 (by decide) g53 (congrArg (fun z => some (Value.int z)) hs.1) dX4_answer_50 ?_
            refine lv_aload_n hx hb dX4_answer_53 rfl (lv_at hl 0 rfl) ?_
            refine w_get X hW 0 0 Nat.zero_lt_one rfl rfl inG4 2 (by decide) g51 rfl dX4_answer_54 ?_
            refine w_alen X hW 6 0 Nat.zero_lt_one rfl 3 rfl (v := 24) rfl dX4_answer_57 ?_
            refine lv_icmp_lt (tgt := 65) hx hb dX4_answer_58 (by decide) (fun c_6 => ?_) (fun c_6 => ?_)
            · skip
              have h24 : nA < 24 := k_lt24 (N := 24) (by omega) (by decide) rfl c_6
              refine w_newo X hW hS (ci := 0) (fs := [.int 0, .int 0, .int 0, .null, .null, .long 0, .int 0, .int 0, .int 0, .int 0, .long 0, .int 0, .int 0]) rfl inG0 tyX0 tyX0_ok g45 g181 g5 (fun j hj => by rcases (show j = 0 ∨ j = 1 ∨ j = 2 ∨ j = 3 ∨ j = 4 ∨ j = 5 ∨ j = 6 ∨ j = 7 ∨ j = 8 ∨ j = 9 ∨ j = 10 ∨ j = 11 ∨ j = 12 by omega) with rfl | rfl | rfl | rfl | rfl | rfl | rfl | rfl | rfl | rfl | rfl | rfl | rfl <;> rfl) (Nat.le_of_ble_eq_true rfl) (Nat.le_of_ble_eq_true rfl) dX4_answer_65 (fun q9 H hW hS hat hqG hqn => ?_)
              refine W.cs (cells' := 1) (slots' := 13) rfl rfl ?_
              refine lv_dup hx hb dX4_answer_68 rfl ?_
              refine lv_aload_n hx hb dX4_answer_69 rfl (lv_at hl 0 rfl) ?_
              refine w_get (v := .int (nI nA)) X hW 0 0 Nat.zero_lt_one rfl rfl inG4 4 (by decide) g53 (congrArg (fun z => some (Value.int z)) hs.1) dX4_answer_70 ?_
              refine lv_iconst (v := 0) hx hb dX4_answer_73 (by decide) ?_
              refine lv_iload_n hx hb dX4_answer_74 rfl (lv_at hl 2 rfl) ?_
              have hGs : G.2.2.1 ≤ H.size := Nat.le_trans X.2.2.2.2.2.1 hS.1
              refine w_cI X hS (m_X0_init l G q9 H hqG hat (nI nA) 0 st) g184 g5 g182 g183 rfl hd_X0_init ⟨Nat.le_of_ble_eq_true rfl, Nat.le_of_ble_eq_true rfl⟩ rfl hl.1 rfl (Nat.le_of_ble_eq_true rfl) dX4_answer_75 ⟨Nat.le_of_ble_eq_true rfl, Nat.le_of_ble_eq_true rfl⟩ (fun H1 locs1 hB hS1 => ?_)
              clear hS
              refine W.cs (cells' := 3) (slots' := 20) rfl rfl ?_
              obtain ⟨i9, e9⟩ : ∃ z, z = nA := ⟨_, rfl⟩
              subst e9
              obtain ⟨q1, q2, hNw⟩ := hB
              obtain ⟨ad1, hold, had, hW1⟩ := k_grow8 hW hqn hqG hGs hz hNw
              have ea : ad 0 0 = ad1 0 0 := (hold 0 0 Nat.zero_lt_one).symm
              have ea2 : ad 7 0 = ad1 7 0 := (hold 7 0 Nat.zero_lt_one).symm
              rw [← had]
              try rw [ea2]
              have hl : lv_has ls 8 [(0, .ref (ad1 0 0)), (1, .long (x0)), (3, .int st), (4, .int a), (5, .int b), (6, .int c9)] := by have h := hl; rw [ea] at h; exact h
              clear hW hat hqn hNw had ea ea2
              obtain ⟨ad9, e8⟩ : ∃ z, z = ad := ⟨_, rfl⟩
              subst e8
              obtain ⟨ad, e8⟩ : ∃ z, z = ad1 := ⟨_, rfl⟩
              subst e8
              obtain ⟨nA, eN⟩ : ∃ z, z = i9 + 1 := ⟨_, rfl⟩
              have hi9 : i9 < nA := by omega
              have hs9 := hs
              obtain ⟨I9, eI9⟩ : ∃ z, z = kNew i9 0 st I := ⟨_, rfl⟩
              obtain ⟨J9, eJ9⟩ : ∃ z, z = kNewJ i9 J := ⟨_, rfl⟩
              have hW : Wd G ad nA nK I9 J9 H1 := hW1.to3 eN.symm rfl eI9.symm eJ9.symm
              clear hW1 hGs
              have hS := hS1
              clear hS1
              generalize H1 = H at hW hS ⊢
              generalize locs1 = locs at hS ⊢
              have hfin : cAnswer i9 nK x0 st a b c9 (I, J) = ((cAnswer2 i9 nK x0 st a b c9 (I, J)).1 8 i9 0, i9 + 1, cAnswer2 i9 nK x0 st a b c9 (I, J)) := by simp [cAnswer, cAnswerOk, c_1, c_2, c_3, c_4, c_5, c_6]
              refine lv_astore (lv' := [(7, .ref (ad 8 i9)), (0, .ref (ad 0 0)), (1, .long (x0)), (3, .int st), (4, .int a), (5, .int b), (6, .int c9)]) hx hb dX4_answer_78 hl (by decide) rfl (fun ls hl => ?_)
              refine lv_aload hx hb dX4_answer_80 (lv_at hl 0 rfl) ?_
              refine lv_lload_n hx hb dX4_answer_82 rfl (lv_at hl 2 rfl) ?_
              refine w_putl X hW hS 8 i9 hi9 rfl rfl inG0 tyX0 tyX0_ok nmX0 5 (by decide) g195 rfl rfl rfl (Nat.le_of_ble_eq_true rfl) rfl dX4_answer_83 (fun H locs hW hS => ?_)
              obtain ⟨J7, eJ7⟩ : ∃ z, z = k_up J9 8 i9 (vp_updL (J9 8 i9) 5 x0) := ⟨_, rfl⟩
              rw [← eJ7] at hW
              refine lv_aload hx hb dX4_answer_86 (lv_at hl 0 rfl) ?_
              refine lv_iload hx hb dX4_answer_88 (lv_at hl 4 rfl) ?_
              refine lv_iload hx hb dX4_answer_90 (lv_at hl 5 rfl) ?_
              refine lv_iload hx hb dX4_answer_92 (lv_at hl 6 rfl) ?_
              refine w_cVv X hS (m_X0_putSets l G ad nA nK I9 J7 i9 a b c9 hi9) rfl rfl g240 g5 g237 g238 g239 hd_X0_putSets ⟨Nat.le_of_ble_eq_true rfl, Nat.le_of_ble_eq_true rfl⟩ (k_rec X hW 8 i9 hi9 rfl rfl) hW hl.1 rfl (Nat.le_of_ble_eq_true rfl) dX4_answer_94 (Nat.le_of_ble_eq_true rfl) (Nat.le_of_ble_eq_true rfl) (fun H locs hW hS => ?_)
              obtain ⟨I8, eI8⟩ : ∃ z, z = kPutS i9 a b c9 I9 := ⟨_, rfl⟩
              rw [← eI8] at hW
              refine lv_aload hx hb dX4_answer_97 (lv_at hl 0 rfl) ?_
              refine lv_aload_n hx hb dX4_answer_99 rfl (lv_at hl 1 rfl) ?_
              refine w_get X hW 0 0 Nat.zero_lt_one rfl rfl inG4 1 (by decide) g50 rfl dX4_answer_100 ?_
              refine w_cV1 X hS (m_X3_now l G ad nA nK I8 J7  ) rfl rfl g244 g3 g241 g242 g243 hd_X3_now ⟨Nat.le_of_ble_eq_true rfl, Nat.le_of_ble_eq_true rfl⟩ (k_rec X hW 3 0 Nat.zero_lt_one rfl rfl) hW hl.1 rfl (Nat.le_of_ble_eq_true rfl) dX4_answer_103 (Nat.le_of_ble_eq_true rfl) (Nat.le_of_ble_eq_true rfl) (fun H locs hW hS => ?_)
              refine w_puti X hW hS 8 i9 hi9 rfl rfl inG0 tyX0 tyX0_ok nmX0 7 (by decide) g199 rfl rfl rfl (Nat.le_of_ble_eq_true rfl) rfl dX4_answer_106 (fun H locs hW hS => ?_)
              obtain ⟨I9, eI9⟩ : ∃ z, z = k_up I8 8 i9 (upd (I8 8 i9) 7 (I8 3 0 2)) := ⟨_, rfl⟩
              rw [← eI9] at hW
              have hk9 : k_S i9 nK I9 := by subst eI9 eI8 eJ7 eJ9 eI9; exact kAnsw_S hs9
              have hn9 : i9 + 1 = nA := eN.symm
              refine lv_aload_n hx hb dX4_answer_109 rfl (lv_at hl 1 rfl) ?_
              refine lv_aload hx hb dX4_answer_110 (lv_at hl 0 rfl) ?_
              refine w_cVv X hS (m_X4_keep l G ad nA nK I9 J7 i9 hi9 (by first | assumption | omega) (by first | assumption | omega) (by first | assumption | omega)) rfl rfl g248 g1 g245 g247 p8 hd_X4_keep ⟨Nat.le_of_ble_eq_true rfl, Nat.le_of_ble_eq_true rfl⟩ (k_rec X hW 0 0 Nat.zero_lt_one rfl rfl) hW hl.1 rfl (Nat.le_of_ble_eq_true rfl) dX4_answer_112 (Nat.le_of_ble_eq_true rfl) (Nat.le_of_ble_eq_true rfl) (fun H locs hW hS => ?_)
              obtain ⟨I10, eI10⟩ : ∃ z, z = (kSettle nA nK (kKeep i9 I9, J7)).1 := ⟨_, rfl⟩
              rw [← eI10] at hW
              obtain ⟨J10, eJ10⟩ : ∃ z, z = (kSettle nA nK (kKeep i9 I9, J7)).2 := ⟨_, rfl⟩
              rw [← eJ10] at hW
              refine lv_aload hx hb dX4_answer_115 (lv_at hl 0 rfl) ?_
              refine w_get X hW 8 i9 hi9 rfl rfl inG0 0 (by decide) g187 rfl dX4_answer_117 ?_
              exact w_iret X hr hlk hS (by rw [hfin]; subst eJ10 eI10 eI9 eI8 eJ7 eJ9 eI9; subst eN; rfl) ⟨ad, hold, hW.to3 (by rw [hfin]; exact eN) rfl (by rw [hfin]; subst eJ10 eI10 eI9 eI8 eJ7 eJ9 eI9; subst eN; rfl) (by rw [hfin]; subst eJ10 eI10 eI9 eI8 eJ7 eJ9 eI9; subst eN; rfl)⟩ dX4_answer_120
            · skip
              refine lv_sipush (v := (-1004)) hx hb dX4_answer_61 (by decide) ?_
              refine W.widen (k := 3) (n := 20) (Nat.zero_le _) (Nat.zero_le _) ?_
              exact w_iret X hr hlk hS (by simp [cAnswer, cAnswerOk, c_1, c_2, c_3, c_4, c_5, c_6]) ⟨ad, fun _ _ _ => rfl, hW.to3 (by simp [cAnswer, cAnswerOk, c_1, c_2, c_3, c_4, c_5, c_6]) rfl (by simp [cAnswer, cAnswerOk, c_1, c_2, c_3, c_4, c_5, c_6]) (by simp [cAnswer, cAnswerOk, c_1, c_2, c_3, c_4, c_5, c_6])⟩ dX4_answer_64
          · skip
            refine lv_sipush (v := (-1002)) hx hb dX4_answer_45 (by decide) ?_
            refine W.widen (k := 3) (n := 20) (Nat.zero_le _) (Nat.zero_le _) ?_
            exact w_iret X hr hlk hS (by simp [cAnswer, cAnswerOk, c_1, c_2, c_3, c_4, c_5]) ⟨ad, fun _ _ _ => rfl, hW.to3 (by simp [cAnswer, cAnswerOk, c_1, c_2, c_3, c_4, c_5]) rfl (by simp [cAnswer, cAnswerOk, c_1, c_2, c_3, c_4, c_5]) (by simp [cAnswer, cAnswerOk, c_1, c_2, c_3, c_4, c_5])⟩ dX4_answer_48
