set_option maxHeartbeats 2000000 in
set_option maxRecDepth 100000 in
theorem m_X4_init (l : Launch) (G : k_G) (h0 : Nat) (H0 : Heap) (hA0 : k_A G h0) (h9 : va_at G.1 vwCl (h0, .inr (4, [.null, .null, .null, .null, .int 0, .int 0, .int 0, .int 0])) H0) : k_Met l yX4_init cX4_init 1 none { frames := 2, cells := 7, slots := 118, locals := 33 } G [.ref h0] (fun H => H = H0) none (fun H => ∃ q1 q1_9 q2 q1_20 q2_20 q3 q4 : Nat, va_P G.1 vwCl [(h0, .inr (4, [.ref q1, .ref q2, .ref q3, .ref q4, .int 0, .int 0, .int 2, .int 20])), (q1, .inr (2, [.ref q1_9])), (q1_9, k_ar 40 (G.2.1 0) (k_fil (nI) 40)), (q2, .inr (3, [.ref q1_20, .ref q2_20, .int 0])), (q1_20, k_ar 10 (G.2.1 0) (fun _ => 0)), (q2_20, k_ar 10 (G.2.1 0) (fun _ => 0)), (q3, .inl (G.2.1 3, 24, .inr (.inr (.inr (.inr (fun _ => none)))))), (q4, .inl (G.2.1 4, 30, .inr (.inr (.inr (.inr (fun _ => none))))))] H ∧ va_D (k_A G) [(h0, .inr (4, [.ref q1, .ref q2, .ref q3, .ref q4, .int 0, .int 0, .int 2, .int 20])), (q1, .inr (2, [.ref q1_9])), (q1_9, k_ar 40 (G.2.1 0) (k_fil (nI) 40)), (q2, .inr (3, [.ref q1_20, .ref q2_20, .int 0])), (q1_20, k_ar 10 (G.2.1 0) (fun _ => 0)), (q2_20, k_ar 10 (G.2.1 0) (fun _ => 0)), (q3, .inl (G.2.1 3, 24, .inr (.inr (.inr (.inr (fun _ => none)))))), (q4, .inl (G.2.1 4, 30, .inr (.inr (.inr (.inr (fun _ => none))))))]) 7 118 := by
  refine k_body (by decide) (Nat.le_of_ble_eq_true rfl) ?_
  intro p e s m below meth c ls X hr hlk hnm hP hS hl
  subst hP
  have hx := X.1.1
  have hb := X.1.2.1
  have hA : ∀ q, s.heap.size ≤ q → k_A G q := fun q h => Nat.le_trans X.2.2.2.2.2.1 h
  have hAA : ∀ q, k_A G q → k_A G q := fun _ h => h
  have hF : k_F G (k_A G) s [(h0, .inr (4, [.null, .null, .null, .null, .int 0, .int 0, .int 0, .int 0]))] s.heap [] := (k_F.one h9).wide (fun q h => h.elim (fun e => e ▸ hA0) (hA q))
  suffices hSu : ∀ (H : Heap) (locs : List Loc), k_F G (k_A G) s [(h0, .inr (4, [.null, .null, .null, .null, .int 0, .int 0, .int 0, .int 0]))] H locs → W p l e { frames := 2, cells := 7, slots := 118, locals := 33 } s m ([.ref h0] : List Value).toArray below meth c H locs 0 0 (MQ below (k_Q G none (fun H => ∃ q1 q1_9 q2 q1_20 q2_20 q3 q4 : Nat, va_P G.1 vwCl [(h0, .inr (4, [.ref q1, .ref q2, .ref q3, .ref q4, .int 0, .int 0, .int 2, .int 20])), (q1, .inr (2, [.ref q1_9])), (q1_9, k_ar 40 (G.2.1 0) (k_fil (nI) 40)), (q2, .inr (3, [.ref q1_20, .ref q2_20, .int 0])), (q1_20, k_ar 10 (G.2.1 0) (fun _ => 0)), (q2_20, k_ar 10 (G.2.1 0) (fun _ => 0)), (q3, .inl (G.2.1 3, 24, .inr (.inr (.inr (.inr (fun _ => none)))))), (q4, .inl (G.2.1 4, 30, .inr (.inr (.inr (.inr (fun _ => none))))))] H ∧ va_D (k_A G) [(h0, .inr (4, [.ref q1, .ref q2, .ref q3, .ref q4, .int 0, .int 0, .int 2, .int 20])), (q1, .inr (2, [.ref q1_9])), (q1_9, k_ar 40 (G.2.1 0) (k_fil (nI) 40)), (q2, .inr (3, [.ref q1_20, .ref q2_20, .int 0])), (q1_20, k_ar 10 (G.2.1 0) (fun _ => 0)), (q2_20, k_ar 10 (G.2.1 0) (fun _ => 0)), (q3, .inl (G.2.1 3, 24, .inr (.inr (.inr (.inr (fun _ => none)))))), (q4, .inl (G.2.1 4, 30, .inr (.inr (.inr (.inr (fun _ => none))))))])) ([.ref h0] : List Value).toArray s 7 118 (k_A G)) (F0 m 0 ls []) from hSu _ _ hF
  intro H locs hF
  have hl : lv_has ls 1 [(0, .ref h0)] := hl
  refine lv_aload_n hx hb dX4_init_0 rfl (lv_at hl 0 rfl) ?_
  refine f_obj X g15 g16 g17 hl.1 (Nat.le_of_ble_eq_true rfl) (Nat.le_of_ble_eq_true rfl) dX4_init_1 ?_
  refine lv_aload_n hx hb dX4_init_4 rfl (lv_at hl 0 rfl) ?_
  refine f_new X hF hA (ci := 2) (fs := [.null]) rfl inG2 tyX2 tyX2_ok g18 g19 g2 (fun j hj => by rcases (show j = 0 by omega) with rfl <;> rfl) (Nat.le_of_ble_eq_true rfl) (Nat.le_of_ble_eq_true rfl) dX4_init_5 (fun q1 H hF => ?_)
  have hF : k_F G (k_A G) s [(h0, .inr (4, [.null, .null, .null, .null, .int 0, .int 0, .int 0, .int 0])), (q1, .inr (2, [.null]))] H locs := hF
  refine W.cs (cells' := 1) (slots' := 1) rfl rfl ?_
  refine lv_dup hx hb dX4_init_8 rfl ?_
  have hr0 := va_recv (q0 := 1) X.2.1 hF.1 (ci := 2) rfl rfl
  refine w_cI X hF.2.2 (m_X2_init l G q1 H (hF.2.1.2 1 _ rfl) (hF.1 1 _ rfl)) g22 g2 g20 g21 rfl hd_X2_init ⟨Nat.le_of_ble_eq_true rfl, Nat.le_of_ble_eq_true rfl⟩ rfl hl.1 rfl (Nat.le_of_ble_eq_true rfl) dX4_init_9 ⟨Nat.le_of_ble_eq_true rfl, Nat.le_of_ble_eq_true rfl⟩ (fun H1 locs1 hB hS1 => ?_)
  obtain ⟨q1_9, hB⟩ := hB
  have hF := f_join (ws := [(h0, .inr (4, [.null, .null, .null, .null, .int 0, .int 0, .int 0, .int 0]))]) (ws' := [(q1, .inr (2, [.ref q1_9])), (q1_9, k_ar 40 (G.2.1 0) (k_fil (nI) 40))]) X.2.2.2.2.2.1 hF hS1 hB
  clear hB hr0
  generalize H1 = H at hF ⊢
  generalize locs1 = locs at hF ⊢
  have hF : k_F G (k_A G) s [(h0, .inr (4, [.null, .null, .null, .null, .int 0, .int 0, .int 0, .int 0])), (q1, .inr (2, [.ref q1_9])), (q1_9, k_ar 40 (G.2.1 0) (k_fil (nI) 40))] H locs := hF
  refine W.cs (cells' := 2) (slots' := 41) rfl rfl ?_
  refine f_putF X hF 0 rfl rfl inG4 tyX4 tyX4_ok nmX4 0 (by decide) g49 rfl hnm rfl rfl rfl (Nat.le_of_ble_eq_true rfl) dX4_init_12 (fun H locs hF => ?_)
  have hF : k_F G (k_A G) s [(h0, .inr (4, [.ref q1, .null, .null, .null, .int 0, .int 0, .int 0, .int 0])), (q1, .inr (2, [.ref q1_9])), (q1_9, k_ar 40 (G.2.1 0) (k_fil (nI) 40))] H locs := hF
  refine lv_aload_n hx hb dX4_init_15 rfl (lv_at hl 0 rfl) ?_
  refine f_new X hF hA (ci := 3) (fs := [.null, .null, .int 0]) rfl inG3 tyX3 tyX3_ok g29 g30 g3 (fun j hj => by rcases (show j = 0 ∨ j = 1 ∨ j = 2 by omega) with rfl | rfl | rfl <;> rfl) (Nat.le_of_ble_eq_true rfl) (Nat.le_of_ble_eq_true rfl) dX4_init_16 (fun q2 H hF => ?_)
  have hF : k_F G (k_A G) s [(h0, .inr (4, [.ref q1, .null, .null, .null, .int 0, .int 0, .int 0, .int 0])), (q1, .inr (2, [.ref q1_9])), (q1_9, k_ar 40 (G.2.1 0) (k_fil (nI) 40)), (q2, .inr (3, [.null, .null, .int 0]))] H locs := hF
  refine W.cs (cells' := 3) (slots' := 44) rfl rfl ?_
  refine lv_dup hx hb dX4_init_19 rfl ?_
  have hr0 := va_recv (q0 := 3) X.2.1 hF.1 (ci := 3) rfl rfl
  refine w_cIN X hF.2.2 (m_X3_init l G q2 H (hF.2.1.2 3 _ rfl) (hF.1 3 _ rfl)) g33 g3 X.2.2.2.2.1.1 g32 rfl hd_X3_init ⟨Nat.le_of_ble_eq_true rfl, Nat.le_of_ble_eq_true rfl⟩ rfl hl.1 rfl (Nat.le_of_ble_eq_true rfl) dX4_init_20 ⟨Nat.le_of_ble_eq_true rfl, Nat.le_of_ble_eq_true rfl⟩ (fun H1 locs1 hB hS1 => ?_)
  obtain ⟨q1_20, q2_20, hB⟩ := hB
  have hF := f_join (ws := [(h0, .inr (4, [.ref q1, .null, .null, .null, .int 0, .int 0, .int 0, .int 0])), (q1, .inr (2, [.ref q1_9])), (q1_9, k_ar 40 (G.2.1 0) (k_fil (nI) 40))]) (ws' := [(q2, .inr (3, [.ref q1_20, .ref q2_20, .int 0])), (q1_20, k_ar 10 (G.2.1 0) (fun _ => 0)), (q2_20, k_ar 10 (G.2.1 0) (fun _ => 0))]) X.2.2.2.2.2.1 hF hS1 hB
  clear hB hr0
  generalize H1 = H at hF ⊢
  generalize locs1 = locs at hF ⊢
  have hF : k_F G (k_A G) s [(h0, .inr (4, [.ref q1, .null, .null, .null, .int 0, .int 0, .int 0, .int 0])), (q1, .inr (2, [.ref q1_9])), (q1_9, k_ar 40 (G.2.1 0) (k_fil (nI) 40)), (q2, .inr (3, [.ref q1_20, .ref q2_20, .int 0])), (q1_20, k_ar 10 (G.2.1 0) (fun _ => 0)), (q2_20, k_ar 10 (G.2.1 0) (fun _ => 0))] H locs := hF
  refine W.cs (cells' := 5) (slots' := 64) rfl rfl ?_
  refine f_putF X hF 0 rfl rfl inG4 tyX4 tyX4_ok nmX4 1 (by decide) g50 rfl hnm rfl rfl rfl (Nat.le_of_ble_eq_true rfl) dX4_init_23 (fun H locs hF => ?_)
  have hF : k_F G (k_A G) s [(h0, .inr (4, [.ref q1, .ref q2, .null, .null, .int 0, .int 0, .int 0, .int 0])), (q1, .inr (2, [.ref q1_9])), (q1_9, k_ar 40 (G.2.1 0) (k_fil (nI) 40)), (q2, .inr (3, [.ref q1_20, .ref q2_20, .int 0])), (q1_20, k_ar 10 (G.2.1 0) (fun _ => 0)), (q2_20, k_ar 10 (G.2.1 0) (fun _ => 0))] H locs := hF
  refine lv_aload_n hx hb dX4_init_26 rfl (lv_at hl 0 rfl) ?_
  refine lv_bipush (v := 24) hx hb dX4_init_27 (by decide) ?_
  refine f_newq X hF hA (C := "AnswerKeeper$Answer") (ti := 3) (n := 24) (N' := 24) g45 X.2.2.2.2.2.2.1 rfl (by decide) (by decide) (by decide) (Nat.le_of_ble_eq_true rfl) (Nat.le_of_ble_eq_true rfl) dX4_init_29 (fun q3 H hF => ?_)
  have hF : k_F G (k_A G) s [(h0, .inr (4, [.ref q1, .ref q2, .null, .null, .int 0, .int 0, .int 0, .int 0])), (q1, .inr (2, [.ref q1_9])), (q1_9, k_ar 40 (G.2.1 0) (k_fil (nI) 40)), (q2, .inr (3, [.ref q1_20, .ref q2_20, .int 0])), (q1_20, k_ar 10 (G.2.1 0) (fun _ => 0)), (q2_20, k_ar 10 (G.2.1 0) (fun _ => 0)), (q3, .inl (G.2.1 3, 24, .inr (.inr (.inr (.inr (fun _ => none))))))] H locs := hF
  refine W.cs (cells' := 6) (slots' := 88) rfl rfl ?_
  refine f_putF X hF 0 rfl rfl inG4 tyX4 tyX4_ok nmX4 2 (by decide) g51 rfl hnm rfl rfl rfl (Nat.le_of_ble_eq_true rfl) dX4_init_32 (fun H locs hF => ?_)
  have hF : k_F G (k_A G) s [(h0, .inr (4, [.ref q1, .ref q2, .ref q3, .null, .int 0, .int 0, .int 0, .int 0])), (q1, .inr (2, [.ref q1_9])), (q1_9, k_ar 40 (G.2.1 0) (k_fil (nI) 40)), (q2, .inr (3, [.ref q1_20, .ref q2_20, .int 0])), (q1_20, k_ar 10 (G.2.1 0) (fun _ => 0)), (q2_20, k_ar 10 (G.2.1 0) (fun _ => 0)), (q3, .inl (G.2.1 3, 24, .inr (.inr (.inr (.inr (fun _ => none))))))] H locs := hF
  refine lv_aload_n hx hb dX4_init_35 rfl (lv_at hl 0 rfl) ?_
  refine lv_bipush (v := 30) hx hb dX4_init_36 (by decide) ?_
  refine f_newq X hF hA (C := "AnswerKeeper$Ask") (ti := 4) (n := 30) (N' := 30) g47 X.2.2.2.2.2.2.2 rfl (by decide) (by decide) (by decide) (Nat.le_of_ble_eq_true rfl) (Nat.le_of_ble_eq_true rfl) dX4_init_38 (fun q4 H hF => ?_)
  have hF : k_F G (k_A G) s [(h0, .inr (4, [.ref q1, .ref q2, .ref q3, .null, .int 0, .int 0, .int 0, .int 0])), (q1, .inr (2, [.ref q1_9])), (q1_9, k_ar 40 (G.2.1 0) (k_fil (nI) 40)), (q2, .inr (3, [.ref q1_20, .ref q2_20, .int 0])), (q1_20, k_ar 10 (G.2.1 0) (fun _ => 0)), (q2_20, k_ar 10 (G.2.1 0) (fun _ => 0)), (q3, .inl (G.2.1 3, 24, .inr (.inr (.inr (.inr (fun _ => none)))))), (q4, .inl (G.2.1 4, 30, .inr (.inr (.inr (.inr (fun _ => none))))))] H locs := hF
  refine W.cs (cells' := 7) (slots' := 118) rfl rfl ?_
  refine f_putF X hF 0 rfl rfl inG4 tyX4 tyX4_ok nmX4 3 (by decide) g52 rfl hnm rfl rfl rfl (Nat.le_of_ble_eq_true rfl) dX4_init_41 (fun H locs hF => ?_)
  have hF : k_F G (k_A G) s [(h0, .inr (4, [.ref q1, .ref q2, .ref q3, .ref q4, .int 0, .int 0, .int 0, .int 0])), (q1, .inr (2, [.ref q1_9])), (q1_9, k_ar 40 (G.2.1 0) (k_fil (nI) 40)), (q2, .inr (3, [.ref q1_20, .ref q2_20, .int 0])), (q1_20, k_ar 10 (G.2.1 0) (fun _ => 0)), (q2_20, k_ar 10 (G.2.1 0) (fun _ => 0)), (q3, .inl (G.2.1 3, 24, .inr (.inr (.inr (.inr (fun _ => none)))))), (q4, .inl (G.2.1 4, 30, .inr (.inr (.inr (.inr (fun _ => none))))))] H locs := hF
  refine lv_aload_n hx hb dX4_init_44 rfl (lv_at hl 0 rfl) ?_
  refine lv_iconst (v := 0) hx hb dX4_init_45 (by decide) ?_
  refine f_put X hF 0 rfl rfl inG4 tyX4 tyX4_ok nmX4 4 (by decide) g53 rfl rfl rfl (Nat.le_of_ble_eq_true rfl) dX4_init_46 (fun H locs hF => ?_)
  have hF : k_F G (k_A G) s [(h0, .inr (4, [.ref q1, .ref q2, .ref q3, .ref q4, .int 0, .int 0, .int 0, .int 0])), (q1, .inr (2, [.ref q1_9])), (q1_9, k_ar 40 (G.2.1 0) (k_fil (nI) 40)), (q2, .inr (3, [.ref q1_20, .ref q2_20, .int 0])), (q1_20, k_ar 10 (G.2.1 0) (fun _ => 0)), (q2_20, k_ar 10 (G.2.1 0) (fun _ => 0)), (q3, .inl (G.2.1 3, 24, .inr (.inr (.inr (.inr (fun _ => none)))))), (q4, .inl (G.2.1 4, 30, .inr (.inr (.inr (.inr (fun _ => none))))))] H locs := hF
  refine lv_aload_n hx hb dX4_init_49 rfl (lv_at hl 0 rfl) ?_
  refine lv_iconst (v := 0) hx hb dX4_init_50 (by decide) ?_
  refine f_put X hF 0 rfl rfl inG4 tyX4 tyX4_ok nmX4 5 (by decide) g54 rfl rfl rfl (Nat.le_of_ble_eq_true rfl) dX4_init_51 (fun H locs hF => ?_)
  have hF : k_F G (k_A G) s [(h0, .inr (4, [.ref q1, .ref q2, .ref q3, .ref q4, .int 0, .int 0, .int 0, .int 0])), (q1, .inr (2, [.ref q1_9])), (q1_9, k_ar 40 (G.2.1 0) (k_fil (nI) 40)), (q2, .inr (3, [.ref q1_20, .ref q2_20, .int 0])), (q1_20, k_ar 10 (G.2.1 0) (fun _ => 0)), (q2_20, k_ar 10 (G.2.1 0) (fun _ => 0)), (q3, .inl (G.2.1 3, 24, .inr (.inr (.inr (.inr (fun _ => none)))))), (q4, .inl (G.2.1 4, 30, .inr (.inr (.inr (.inr (fun _ => none))))))] H locs := hF
  refine lv_aload_n hx hb dX4_init_54 rfl (lv_at hl 0 rfl) ?_
  refine lv_iconst (v := 2) hx hb dX4_init_55 (by decide) ?_
  refine f_put X hF 0 rfl rfl inG4 tyX4 tyX4_ok nmX4 6 (by decide) g55 rfl rfl rfl (Nat.le_of_ble_eq_true rfl) dX4_init_56 (fun H locs hF => ?_)
  have hF : k_F G (k_A G) s [(h0, .inr (4, [.ref q1, .ref q2, .ref q3, .ref q4, .int 0, .int 0, .int 2, .int 0])), (q1, .inr (2, [.ref q1_9])), (q1_9, k_ar 40 (G.2.1 0) (k_fil (nI) 40)), (q2, .inr (3, [.ref q1_20, .ref q2_20, .int 0])), (q1_20, k_ar 10 (G.2.1 0) (fun _ => 0)), (q2_20, k_ar 10 (G.2.1 0) (fun _ => 0)), (q3, .inl (G.2.1 3, 24, .inr (.inr (.inr (.inr (fun _ => none)))))), (q4, .inl (G.2.1 4, 30, .inr (.inr (.inr (.inr (fun _ => none))))))] H locs := hF
  refine lv_aload_n hx hb dX4_init_59 rfl (lv_at hl 0 rfl) ?_
  refine lv_bipush (v := 20) hx hb dX4_init_60 (by decide) ?_
  refine f_put X hF 0 rfl rfl inG4 tyX4 tyX4_ok nmX4 7 (by decide) g56 rfl rfl rfl (Nat.le_of_ble_eq_true rfl) dX4_init_62 (fun H locs hF => ?_)
  have hF : k_F G (k_A G) s [(h0, .inr (4, [.ref q1, .ref q2, .ref q3, .ref q4, .int 0, .int 0, .int 2, .int 20])), (q1, .inr (2, [.ref q1_9])), (q1_9, k_ar 40 (G.2.1 0) (k_fil (nI) 40)), (q2, .inr (3, [.ref q1_20, .ref q2_20, .int 0])), (q1_20, k_ar 10 (G.2.1 0) (fun _ => 0)), (q2_20, k_ar 10 (G.2.1 0) (fun _ => 0)), (q3, .inl (G.2.1 3, 24, .inr (.inr (.inr (.inr (fun _ => none)))))), (q4, .inl (G.2.1 4, 30, .inr (.inr (.inr (.inr (fun _ => none))))))] H locs := hF
  exact f_vret X hr hlk hF hAA (⟨q1, q1_9, q2, q1_20, q2_20, q3, q4, hF.1, hF.2.1⟩) (Nat.le_of_ble_eq_true rfl) (Nat.le_of_ble_eq_true rfl) dX4_init_65
