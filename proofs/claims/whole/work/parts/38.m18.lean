set_option maxHeartbeats 2000000 in
set_option maxRecDepth 100000 in
theorem m_X0_init (l : Launch) (G : k_G) (h0 : Nat) (H0 : Heap) (hA0 : k_A G h0) (h9 : va_at G.1 vwCl (h0, .inr (0, [.int 0, .int 0, .int 0, .null, .null, .long 0, .int 0, .int 0, .int 0, .int 0, .long 0, .int 0, .int 0])) H0) (n : Int32) (kd : Int32) (st : Int32) : k_Met l yX0_init cX0_init 5 none { frames := 1, cells := 2, slots := 7, locals := 12 } G [.ref h0, .int n, .int kd, .int st] (fun H => H = H0) none (fun H => ∃ q1 q2 : Nat, k_Nw G H0 h0 [(h0, .inr (0, [.int n, .int kd, .int st, .ref q1, .ref q2, .long 0, .int 0, .int 0, .int 0, .int n, .long 0, .int 0, .int 0])), (q1, k_ar 3 (G.2.1 0) (fun _ => 0)), (q2, k_ar 4 (G.2.1 0) (k_fil (fun _ => (-1)) 4))] H) 2 7 := by
  refine k_body (by decide) (Nat.le_of_ble_eq_true rfl) ?_
  intro p e s m below meth c ls X hr hlk hnm hP hS hl
  subst hP
  have hx := X.1.1
  have hb := X.1.2.1
  have hA : ∀ q, s.heap.size ≤ q → k_AN h0 s q := fun q h => Or.inr h
  have hAA : ∀ q, k_AN h0 s q → k_A G q := fun q h => h.elim (fun e => e ▸ hA0) (fun h => Nat.le_trans X.2.2.2.2.2.1 h)
  have hF : k_F G (k_AN h0 s) s [(h0, .inr (0, [.int 0, .int 0, .int 0, .null, .null, .long 0, .int 0, .int 0, .int 0, .int 0, .long 0, .int 0, .int 0]))] s.heap [] := k_F.one h9
  suffices hSu : ∀ (H : Heap) (locs : List Loc), k_F G (k_AN h0 s) s [(h0, .inr (0, [.int 0, .int 0, .int 0, .null, .null, .long 0, .int 0, .int 0, .int 0, .int 0, .long 0, .int 0, .int 0]))] H locs → W p l e { frames := 1, cells := 2, slots := 7, locals := 12 } s m ([.ref h0, .int n, .int kd, .int st] : List Value).toArray below meth c H locs 0 0 (MQ below (k_Q G none (fun H => ∃ q1 q2 : Nat, k_Nw G s.heap h0 [(h0, .inr (0, [.int n, .int kd, .int st, .ref q1, .ref q2, .long 0, .int 0, .int 0, .int 0, .int n, .long 0, .int 0, .int 0])), (q1, k_ar 3 (G.2.1 0) (fun _ => 0)), (q2, k_ar 4 (G.2.1 0) (k_fil (fun _ => (-1)) 4))] H)) ([.ref h0, .int n, .int kd, .int st] : List Value).toArray s 2 7 (k_A G)) (F0 m 0 ls []) from hSu _ _ hF
  intro H locs hF
  have hl : lv_has ls 5 [(0, .ref h0), (1, .int n), (2, .int kd), (3, .int st)] := hl
  refine lv_aload_n hx hb dX0_init_0 rfl (lv_at hl 0 rfl) ?_
  refine f_obj X g185 g16 g17 hl.1 (Nat.le_of_ble_eq_true rfl) (Nat.le_of_ble_eq_true rfl) dX0_init_1 ?_
  refine lv_aload_n hx hb dX0_init_4 rfl (lv_at hl 0 rfl) ?_
  refine lv_iconst (v := 3) hx hb dX0_init_5 (by decide) ?_
  refine f_newa X hF hA (atype := .int) (ti := 0) (n := 3) (N' := 3) (a0 := (3, .inl (fun _ => (0 : Int32)))) (Or.inl g28) rfl rfl (fun _ => rfl) (by decide) (by decide) (by decide) (Nat.le_of_ble_eq_true rfl) (Nat.le_of_ble_eq_true rfl) dX0_init_6 (fun q1 H hF => ?_)
  have hF : k_F G (k_AN h0 s) s [(h0, .inr (0, [.int 0, .int 0, .int 0, .null, .null, .long 0, .int 0, .int 0, .int 0, .int 0, .long 0, .int 0, .int 0])), (q1, k_ar 3 (G.2.1 0) (fun _ => 0))] H locs := hF
  refine W.cs (cells' := 1) (slots' := 3) rfl rfl ?_
  refine f_putF X hF 0 rfl rfl inG0 tyX0 tyX0_ok nmX0 3 (by decide) g192 rfl hnm rfl rfl rfl (Nat.le_of_ble_eq_true rfl) dX0_init_8 (fun H locs hF => ?_)
  have hF : k_F G (k_AN h0 s) s [(h0, .inr (0, [.int 0, .int 0, .int 0, .ref q1, .null, .long 0, .int 0, .int 0, .int 0, .int 0, .long 0, .int 0, .int 0])), (q1, k_ar 3 (G.2.1 0) (fun _ => 0))] H locs := hF
  refine lv_aload_n hx hb dX0_init_11 rfl (lv_at hl 0 rfl) ?_
  refine lv_iconst (v := 4) hx hb dX0_init_12 (by decide) ?_
  refine f_newa X hF hA (atype := .int) (ti := 0) (n := 4) (N' := 4) (a0 := (4, .inl (fun _ => (0 : Int32)))) (Or.inl g28) rfl rfl (fun _ => rfl) (by decide) (by decide) (by decide) (Nat.le_of_ble_eq_true rfl) (Nat.le_of_ble_eq_true rfl) dX0_init_13 (fun q2 H hF => ?_)
  have hF : k_F G (k_AN h0 s) s [(h0, .inr (0, [.int 0, .int 0, .int 0, .ref q1, .null, .long 0, .int 0, .int 0, .int 0, .int 0, .long 0, .int 0, .int 0])), (q1, k_ar 3 (G.2.1 0) (fun _ => 0)), (q2, k_ar 4 (G.2.1 0) (fun _ => 0))] H locs := hF
  refine W.cs (cells' := 2) (slots' := 7) rfl rfl ?_
  refine f_putF X hF 0 rfl rfl inG0 tyX0 tyX0_ok nmX0 4 (by decide) g193 rfl hnm rfl rfl rfl (Nat.le_of_ble_eq_true rfl) dX0_init_15 (fun H locs hF => ?_)
  have hF : k_F G (k_AN h0 s) s [(h0, .inr (0, [.int 0, .int 0, .int 0, .ref q1, .ref q2, .long 0, .int 0, .int 0, .int 0, .int 0, .long 0, .int 0, .int 0])), (q1, k_ar 3 (G.2.1 0) (fun _ => 0)), (q2, k_ar 4 (G.2.1 0) (fun _ => 0))] H locs := hF
  refine lv_aload_n hx hb dX0_init_18 rfl (lv_at hl 0 rfl) ?_
  refine lv_lconst (v := 0) hx hb dX0_init_19 (by decide) ?_
  refine f_put X hF 0 rfl rfl inG0 tyX0 tyX0_ok nmX0 5 (by decide) g194 rfl rfl rfl (Nat.le_of_ble_eq_true rfl) dX0_init_20 (fun H locs hF => ?_)
  have hF : k_F G (k_AN h0 s) s [(h0, .inr (0, [.int 0, .int 0, .int 0, .ref q1, .ref q2, .long 0, .int 0, .int 0, .int 0, .int 0, .long 0, .int 0, .int 0])), (q1, k_ar 3 (G.2.1 0) (fun _ => 0)), (q2, k_ar 4 (G.2.1 0) (fun _ => 0))] H locs := hF
  refine lv_aload_n hx hb dX0_init_23 rfl (lv_at hl 0 rfl) ?_
  refine lv_iconst (v := 0) hx hb dX0_init_24 (by decide) ?_
  refine f_put X hF 0 rfl rfl inG0 tyX0 tyX0_ok nmX0 6 (by decide) g196 rfl rfl rfl (Nat.le_of_ble_eq_true rfl) dX0_init_25 (fun H locs hF => ?_)
  have hF : k_F G (k_AN h0 s) s [(h0, .inr (0, [.int 0, .int 0, .int 0, .ref q1, .ref q2, .long 0, .int 0, .int 0, .int 0, .int 0, .long 0, .int 0, .int 0])), (q1, k_ar 3 (G.2.1 0) (fun _ => 0)), (q2, k_ar 4 (G.2.1 0) (fun _ => 0))] H locs := hF
  refine lv_aload_n hx hb dX0_init_28 rfl (lv_at hl 0 rfl) ?_
  refine lv_iconst (v := 0) hx hb dX0_init_29 (by decide) ?_
  refine f_put X hF 0 rfl rfl inG0 tyX0 tyX0_ok nmX0 7 (by decide) g198 rfl rfl rfl (Nat.le_of_ble_eq_true rfl) dX0_init_30 (fun H locs hF => ?_)
  have hF : k_F G (k_AN h0 s) s [(h0, .inr (0, [.int 0, .int 0, .int 0, .ref q1, .ref q2, .long 0, .int 0, .int 0, .int 0, .int 0, .long 0, .int 0, .int 0])), (q1, k_ar 3 (G.2.1 0) (fun _ => 0)), (q2, k_ar 4 (G.2.1 0) (fun _ => 0))] H locs := hF
  refine lv_aload_n hx hb dX0_init_33 rfl (lv_at hl 0 rfl) ?_
  refine lv_iconst (v := 0) hx hb dX0_init_34 (by decide) ?_
  refine f_put X hF 0 rfl rfl inG0 tyX0 tyX0_ok nmX0 8 (by decide) g200 rfl rfl rfl (Nat.le_of_ble_eq_true rfl) dX0_init_35 (fun H locs hF => ?_)
  have hF : k_F G (k_AN h0 s) s [(h0, .inr (0, [.int 0, .int 0, .int 0, .ref q1, .ref q2, .long 0, .int 0, .int 0, .int 0, .int 0, .long 0, .int 0, .int 0])), (q1, k_ar 3 (G.2.1 0) (fun _ => 0)), (q2, k_ar 4 (G.2.1 0) (fun _ => 0))] H locs := hF
  refine lv_aload_n hx hb dX0_init_38 rfl (lv_at hl 0 rfl) ?_
  refine lv_lconst (v := 0) hx hb dX0_init_39 (by decide) ?_
  refine f_put X hF 0 rfl rfl inG0 tyX0 tyX0_ok nmX0 10 (by decide) g204 rfl rfl rfl (Nat.le_of_ble_eq_true rfl) dX0_init_40 (fun H locs hF => ?_)
  have hF : k_F G (k_AN h0 s) s [(h0, .inr (0, [.int 0, .int 0, .int 0, .ref q1, .ref q2, .long 0, .int 0, .int 0, .int 0, .int 0, .long 0, .int 0, .int 0])), (q1, k_ar 3 (G.2.1 0) (fun _ => 0)), (q2, k_ar 4 (G.2.1 0) (fun _ => 0))] H locs := hF
  refine lv_aload_n hx hb dX0_init_43 rfl (lv_at hl 0 rfl) ?_
  refine lv_iconst (v := 0) hx hb dX0_init_44 (by decide) ?_
  refine f_put X hF 0 rfl rfl inG0 tyX0 tyX0_ok nmX0 11 (by decide) g206 rfl rfl rfl (Nat.le_of_ble_eq_true rfl) dX0_init_45 (fun H locs hF => ?_)
  have hF : k_F G (k_AN h0 s) s [(h0, .inr (0, [.int 0, .int 0, .int 0, .ref q1, .ref q2, .long 0, .int 0, .int 0, .int 0, .int 0, .long 0, .int 0, .int 0])), (q1, k_ar 3 (G.2.1 0) (fun _ => 0)), (q2, k_ar 4 (G.2.1 0) (fun _ => 0))] H locs := hF
  refine lv_aload_n hx hb dX0_init_48 rfl (lv_at hl 0 rfl) ?_
  refine lv_iconst (v := 0) hx hb dX0_init_49 (by decide) ?_
  refine f_put X hF 0 rfl rfl inG0 tyX0 tyX0_ok nmX0 12 (by decide) g208 rfl rfl rfl (Nat.le_of_ble_eq_true rfl) dX0_init_50 (fun H locs hF => ?_)
  have hF : k_F G (k_AN h0 s) s [(h0, .inr (0, [.int 0, .int 0, .int 0, .ref q1, .ref q2, .long 0, .int 0, .int 0, .int 0, .int 0, .long 0, .int 0, .int 0])), (q1, k_ar 3 (G.2.1 0) (fun _ => 0)), (q2, k_ar 4 (G.2.1 0) (fun _ => 0))] H locs := hF
  refine lv_aload_n hx hb dX0_init_53 rfl (lv_at hl 0 rfl) ?_
  refine lv_iload_n hx hb dX0_init_54 rfl (lv_at hl 1 rfl) ?_
  refine f_putF X hF 0 rfl rfl inG0 tyX0 tyX0_ok nmX0 0 (by decide) g186 rfl hnm rfl rfl rfl (Nat.le_of_ble_eq_true rfl) dX0_init_55 (fun H locs hF => ?_)
  have hF : k_F G (k_AN h0 s) s [(h0, .inr (0, [.int n, .int 0, .int 0, .ref q1, .ref q2, .long 0, .int 0, .int 0, .int 0, .int 0, .long 0, .int 0, .int 0])), (q1, k_ar 3 (G.2.1 0) (fun _ => 0)), (q2, k_ar 4 (G.2.1 0) (fun _ => 0))] H locs := hF
  refine lv_aload_n hx hb dX0_init_58 rfl (lv_at hl 0 rfl) ?_
  refine lv_iload_n hx hb dX0_init_59 rfl (lv_at hl 2 rfl) ?_
  refine f_putF X hF 0 rfl rfl inG0 tyX0 tyX0_ok nmX0 1 (by decide) g188 rfl hnm rfl rfl rfl (Nat.le_of_ble_eq_true rfl) dX0_init_60 (fun H locs hF => ?_)
  have hF : k_F G (k_AN h0 s) s [(h0, .inr (0, [.int n, .int kd, .int 0, .ref q1, .ref q2, .long 0, .int 0, .int 0, .int 0, .int 0, .long 0, .int 0, .int 0])), (q1, k_ar 3 (G.2.1 0) (fun _ => 0)), (q2, k_ar 4 (G.2.1 0) (fun _ => 0))] H locs := hF
  refine lv_aload_n hx hb dX0_init_63 rfl (lv_at hl 0 rfl) ?_
  refine lv_iload_n hx hb dX0_init_64 rfl (lv_at hl 3 rfl) ?_
  refine f_putF X hF 0 rfl rfl inG0 tyX0 tyX0_ok nmX0 2 (by decide) g190 rfl hnm rfl rfl rfl (Nat.le_of_ble_eq_true rfl) dX0_init_65 (fun H locs hF => ?_)
  have hF : k_F G (k_AN h0 s) s [(h0, .inr (0, [.int n, .int kd, .int st, .ref q1, .ref q2, .long 0, .int 0, .int 0, .int 0, .int 0, .long 0, .int 0, .int 0])), (q1, k_ar 3 (G.2.1 0) (fun _ => 0)), (q2, k_ar 4 (G.2.1 0) (fun _ => 0))] H locs := hF
  refine lv_aload_n hx hb dX0_init_68 rfl (lv_at hl 0 rfl) ?_
  refine lv_iload_n hx hb dX0_init_69 rfl (lv_at hl 1 rfl) ?_
  refine f_put X hF 0 rfl rfl inG0 tyX0 tyX0_ok nmX0 9 (by decide) g202 rfl rfl rfl (Nat.le_of_ble_eq_true rfl) dX0_init_70 (fun H locs hF => ?_)
  have hF : k_F G (k_AN h0 s) s [(h0, .inr (0, [.int n, .int kd, .int st, .ref q1, .ref q2, .long 0, .int 0, .int 0, .int 0, .int n, .long 0, .int 0, .int 0])), (q1, k_ar 3 (G.2.1 0) (fun _ => 0)), (q2, k_ar 4 (G.2.1 0) (fun _ => 0))] H locs := hF
  refine lv_iconst (v := 0) hx hb dX0_init_73 (by decide) ?_
  refine lv_istore (lv' := [(4, .int 0), (0, .ref h0), (1, .int n), (2, .int kd), (3, .int st)]) hx hb dX0_init_74 hl (by decide) rfl (fun ls hl => ?_)
  have hF : k_F G (k_AN h0 s) s [(h0, .inr (0, [.int n, .int kd, .int st, .ref q1, .ref q2, .long 0, .int 0, .int 0, .int 0, .int n, .long 0, .int 0, .int 0])), (q1, k_ar 3 (G.2.1 0) (fun _ => 0)), (q2, k_ar 4 (G.2.1 0) (k_fil (fun _ => (-1)) 0))] H locs := by rw [← k_fil_0 (fun _ => (-1))]; exact hF
  have loop : ∀ (d i : Nat), i + d = 4 → ∀ (H : Heap) (locs : List Loc), k_F G (k_AN h0 s) s [(h0, .inr (0, [.int n, .int kd, .int st, .ref q1, .ref q2, .long 0, .int 0, .int 0, .int 0, .int n, .long 0, .int 0, .int 0])), (q1, k_ar 3 (G.2.1 0) (fun _ => 0)), (q2, k_ar 4 (G.2.1 0) (k_fil (fun _ => (-1)) i))] H locs → ∀ ls : Array Slot, lv_has ls 5 [(4, .int (nI i)), (0, .ref h0), (1, .int n), (2, .int kd), (3, .int st)] → W p l e { frames := 1, cells := 2, slots := 7, locals := 12 } s m ([.ref h0, .int n, .int kd, .int st] : List Value).toArray below meth c H locs 2 7 (MQ below (k_Q G none (fun H => ∃ q1 q2 : Nat, k_Nw G s.heap h0 [(h0, .inr (0, [.int n, .int kd, .int st, .ref q1, .ref q2, .long 0, .int 0, .int 0, .int 0, .int n, .long 0, .int 0, .int 0])), (q1, k_ar 3 (G.2.1 0) (fun _ => 0)), (q2, k_ar 4 (G.2.1 0) (k_fil (fun _ => (-1)) 4))] H)) ([.ref h0, .int n, .int kd, .int st] : List Value).toArray s 2 7 (k_A G)) (F0 m 76 ls []) := by
    intro d
    induction d with
    | zero =>
      intro i hi H locs hF ls hl
      have hi : i = 4 := by omega
      subst hi
      refine lv_iload hx hb dX0_init_76 (lv_at hl 0 rfl) ?_
      refine lv_aload_n hx hb dX0_init_78 rfl (lv_at hl 1 rfl) ?_
      refine f_get X hF 0 rfl rfl inG0 4 (by decide) g193 (v := .ref q2) rfl dX0_init_79 ?_
      refine f_alen X hF 2 rfl (v := 4) rfl dX0_init_82 ?_
      refine lv_icmp_ge (tgt := 100) hx hb dX0_init_83 (by decide) (fun _ => ?_) (fun c_ => absurd (nI_le (a := 4) (b := 4) (by omega) (by omega)) c_)
      exact f_vret X hr hlk hF hAA (⟨q1, q2, hF.nw⟩) (Nat.le_of_ble_eq_true rfl) (Nat.le_of_ble_eq_true rfl) dX0_init_100
    | succ d ih =>
      intro i hi H locs hF ls hl
      refine lv_iload hx hb dX0_init_76 (lv_at hl 0 rfl) ?_
      refine lv_aload_n hx hb dX0_init_78 rfl (lv_at hl 1 rfl) ?_
      refine f_get X hF 0 rfl rfl inG0 4 (by decide) g193 (v := .ref q2) rfl dX0_init_79 ?_
      refine f_alen X hF 2 rfl (v := 4) rfl dX0_init_82 ?_
      refine lv_icmp_ge (tgt := 100) hx hb dX0_init_83 (by decide) (fun c_ => absurd c_ (nI_ge (a := i) (b := 4) (by omega) (by omega))) (fun _ => ?_)
      refine lv_aload_n hx hb dX0_init_86 rfl (lv_at hl 1 rfl) ?_
      refine f_get X hF 0 rfl rfl inG0 4 (by decide) g193 (v := .ref q2) rfl dX0_init_87 ?_
      refine lv_iload hx hb dX0_init_90 (lv_at hl 0 rfl) ?_
      refine lv_iconst (v := (-1)) hx hb dX0_init_92 (by decide) ?_
      refine f_iast X hF 2 (i := i) rfl (by omega) dX0_init_93 (fun H locs hF => ?_)
      have hF : k_F G (k_AN h0 s) s [(h0, .inr (0, [.int n, .int kd, .int st, .ref q1, .ref q2, .long 0, .int 0, .int 0, .int 0, .int n, .long 0, .int 0, .int 0])), (q1, k_ar 3 (G.2.1 0) (fun _ => 0)), (q2, k_ar 4 (G.2.1 0) (upd (k_fil (fun _ => (-1)) i) i ((-1))))] H locs := hF
      rw [show upd (k_fil (fun _ => (-1)) i) i ((-1)) = k_fil (fun _ => (-1)) (i + 1) from by exact k_fil_s _ _] at hF
      refine lv_iinc (v := nI (i + 1)) (lv' := [(4, .int (nI (i + 1))), (0, .ref h0), (1, .int n), (2, .int kd), (3, .int st)]) hx hb dX0_init_94 hl (k := 0) rfl (nI_1 i) (by decide) rfl (fun ls hl => ?_)
      refine lv_goto (tgt := 76) hx hb dX0_init_97 (by decide) ?_
      exact ih (i + 1) (by omega) _ _ hF ls (lv_sub hl [0, 1, 2, 3, 4] rfl)
  exact loop 4 0 (by omega) _ _ hF ls (lv_sub hl [0, 1, 2, 3, 4] rfl)
set_option maxHeartbeats 2000000 in
set_option maxRecDepth 100000 in
theorem m_X1_init (l : Launch) (G : k_G) (h0 : Nat) (H0 : Heap) (hA0 : k_A G h0) (h9 : va_at G.1 vwCl (h0, .inr (1, [.long 0, .null, .long 0])) H0) (x0 : Int64) (x : Int32) (y : Int32) (z : Int32) : k_Met l yX1_init cX1_init 7 none { frames := 1, cells := 1, slots := 3, locals := 12 } G [.ref h0, .long x0, .int x, .int y, .int z] (fun H => H = H0) none (fun H => ∃ q1 : Nat, k_Nw G H0 h0 [(h0, .inr (1, [.long x0, .ref q1, .long 0])), (q1, k_ar 3 (G.2.1 0) (k_fil (fun j => if nI j = 0 then x else if nI j = 1 then y else z) 3))] H) 1 3 := by
  refine k_body (by decide) (Nat.le_of_ble_eq_true rfl) ?_
  intro p e s m below meth c ls X hr hlk hnm hP hS hl
  subst hP
  have hx := X.1.1
  have hb := X.1.2.1
  have hA : ∀ q, s.heap.size ≤ q → k_AN h0 s q := fun q h => Or.inr h
  have hAA : ∀ q, k_AN h0 s q → k_A G q := fun q h => h.elim (fun e => e ▸ hA0) (fun h => Nat.le_trans X.2.2.2.2.2.1 h)
  have hF : k_F G (k_AN h0 s) s [(h0, .inr (1, [.long 0, .null, .long 0]))] s.heap [] := k_F.one h9
  suffices hSu : ∀ (H : Heap) (locs : List Loc), k_F G (k_AN h0 s) s [(h0, .inr (1, [.long 0, .null, .long 0]))] H locs → W p l e { frames := 1, cells := 1, slots := 3, locals := 12 } s m ([.ref h0, .long x0, .int x, .int y, .int z] : List Value).toArray below meth c H locs 0 0 (MQ below (k_Q G none (fun H => ∃ q1 : Nat, k_Nw G s.heap h0 [(h0, .inr (1, [.long x0, .ref q1, .long 0])), (q1, k_ar 3 (G.2.1 0) (k_fil (fun j => if nI j = 0 then x else if nI j = 1 then y else z) 3))] H)) ([.ref h0, .long x0, .int x, .int y, .int z] : List Value).toArray s 1 3 (k_A G)) (F0 m 0 ls []) from hSu _ _ hF
  intro H locs hF
  have hl : lv_has ls 7 [(0, .ref h0), (1, .long x0), (3, .int x), (4, .int y), (5, .int z)] := hl
  refine lv_aload_n hx hb dX1_init_0 rfl (lv_at hl 0 rfl) ?_
  refine f_obj X g447 g16 g17 hl.1 (Nat.le_of_ble_eq_true rfl) (Nat.le_of_ble_eq_true rfl) dX1_init_1 ?_
  refine lv_aload_n hx hb dX1_init_4 rfl (lv_at hl 0 rfl) ?_
  refine lv_iconst (v := 3) hx hb dX1_init_5 (by decide) ?_
  refine f_newa X hF hA (atype := .int) (ti := 0) (n := 3) (N' := 3) (a0 := (3, .inl (fun _ => (0 : Int32)))) (Or.inl g28) rfl rfl (fun _ => rfl) (by decide) (by decide) (by decide) (Nat.le_of_ble_eq_true rfl) (Nat.le_of_ble_eq_true rfl) dX1_init_6 (fun q1 H hF => ?_)
  have hF : k_F G (k_AN h0 s) s [(h0, .inr (1, [.long 0, .null, .long 0])), (q1, k_ar 3 (G.2.1 0) (fun _ => 0))] H locs := hF
  refine W.cs (cells' := 1) (slots' := 3) rfl rfl ?_
  refine f_putF X hF 0 rfl rfl inG1 tyX1 tyX1_ok nmX1 1 (by decide) g450 rfl hnm rfl rfl rfl (Nat.le_of_ble_eq_true rfl) dX1_init_8 (fun H locs hF => ?_)
  have hF : k_F G (k_AN h0 s) s [(h0, .inr (1, [.long 0, .ref q1, .long 0])), (q1, k_ar 3 (G.2.1 0) (fun _ => 0))] H locs := hF
  refine lv_aload_n hx hb dX1_init_11 rfl (lv_at hl 0 rfl) ?_
  refine lv_lconst (v := 0) hx hb dX1_init_12 (by decide) ?_
  refine f_put X hF 0 rfl rfl inG1 tyX1 tyX1_ok nmX1 2 (by decide) g451 rfl rfl rfl (Nat.le_of_ble_eq_true rfl) dX1_init_13 (fun H locs hF => ?_)
  have hF : k_F G (k_AN h0 s) s [(h0, .inr (1, [.long 0, .ref q1, .long 0])), (q1, k_ar 3 (G.2.1 0) (fun _ => 0))] H locs := hF
  refine lv_aload_n hx hb dX1_init_16 rfl (lv_at hl 0 rfl) ?_
  refine lv_lload_n hx hb dX1_init_17 rfl (lv_at hl 1 rfl) ?_
  refine f_putF X hF 0 rfl rfl inG1 tyX1 tyX1_ok nmX1 0 (by decide) g448 rfl hnm rfl rfl rfl (Nat.le_of_ble_eq_true rfl) dX1_init_18 (fun H locs hF => ?_)
  have hF : k_F G (k_AN h0 s) s [(h0, .inr (1, [.long x0, .ref q1, .long 0])), (q1, k_ar 3 (G.2.1 0) (fun _ => 0))] H locs := hF
  refine lv_iconst (v := 0) hx hb dX1_init_21 (by decide) ?_
  refine lv_istore (lv' := [(6, .int 0), (0, .ref h0), (1, .long x0), (3, .int x), (4, .int y), (5, .int z)]) hx hb dX1_init_22 hl (by decide) rfl (fun ls hl => ?_)
  have hF : k_F G (k_AN h0 s) s [(h0, .inr (1, [.long x0, .ref q1, .long 0])), (q1, k_ar 3 (G.2.1 0) (k_fil (fun j => if nI j = 0 then x else if nI j = 1 then y else z) 0))] H locs := by rw [← k_fil_0 (fun j => if nI j = 0 then x else if nI j = 1 then y else z)]; exact hF
  have loop : ∀ (d i : Nat), i + d = 3 → ∀ (H : Heap) (locs : List Loc), k_F G (k_AN h0 s) s [(h0, .inr (1, [.long x0, .ref q1, .long 0])), (q1, k_ar 3 (G.2.1 0) (k_fil (fun j => if nI j = 0 then x else if nI j = 1 then y else z) i))] H locs → ∀ ls : Array Slot, lv_has ls 7 [(6, .int (nI i)), (0, .ref h0), (1, .long x0), (3, .int x), (4, .int y), (5, .int z)] → W p l e { frames := 1, cells := 1, slots := 3, locals := 12 } s m ([.ref h0, .long x0, .int x, .int y, .int z] : List Value).toArray below meth c H locs 1 3 (MQ below (k_Q G none (fun H => ∃ q1 : Nat, k_Nw G s.heap h0 [(h0, .inr (1, [.long x0, .ref q1, .long 0])), (q1, k_ar 3 (G.2.1 0) (k_fil (fun j => if nI j = 0 then x else if nI j = 1 then y else z) 3))] H)) ([.ref h0, .long x0, .int x, .int y, .int z] : List Value).toArray s 1 3 (k_A G)) (F0 m 24 ls []) := by
    intro d
    induction d with
    | zero =>
      intro i hi H locs hF ls hl
      have hi : i = 3 := by omega
      subst hi
      refine lv_iload hx hb dX1_init_24 (lv_at hl 0 rfl) ?_
      refine lv_aload_n hx hb dX1_init_26 rfl (lv_at hl 1 rfl) ?_
      refine f_get X hF 0 rfl rfl inG1 1 (by decide) g450 (v := .ref q1) rfl dX1_init_27 ?_
      refine f_alen X hF 1 rfl (v := 3) rfl dX1_init_30 ?_
      refine lv_icmp_ge (tgt := 69) hx hb dX1_init_31 (by decide) (fun _ => ?_) (fun c_ => absurd (nI_le (a := 3) (b := 3) (by omega) (by omega)) c_)
      exact f_vret X hr hlk hF hAA (⟨q1, hF.nw⟩) (Nat.le_of_ble_eq_true rfl) (Nat.le_of_ble_eq_true rfl) dX1_init_69
    | succ d ih =>
      intro i hi H locs hF ls hl
      refine lv_iload hx hb dX1_init_24 (lv_at hl 0 rfl) ?_
      refine lv_aload_n hx hb dX1_init_26 rfl (lv_at hl 1 rfl) ?_
      refine f_get X hF 0 rfl rfl inG1 1 (by decide) g450 (v := .ref q1) rfl dX1_init_27 ?_
      refine f_alen X hF 1 rfl (v := 3) rfl dX1_init_30 ?_
      refine lv_icmp_ge (tgt := 69) hx hb dX1_init_31 (by decide) (fun c_ => absurd c_ (nI_ge (a := i) (b := 3) (by omega) (by omega))) (fun _ => ?_)
      refine lv_aload_n hx hb dX1_init_34 rfl (lv_at hl 1 rfl) ?_
      refine f_get X hF 0 rfl rfl inG1 1 (by decide) g450 (v := .ref q1) rfl dX1_init_35 ?_
      refine lv_iload hx hb dX1_init_38 (lv_at hl 0 rfl) ?_
      refine lv_iload hx hb dX1_init_40 (lv_at hl 0 rfl) ?_
      refine lv_if_ne (tgt := 49) hx hb dX1_init_42 (by decide) (fun c_2 => ?_) (fun c_2 => ?_)
      · skip
        refine lv_iload hx hb dX1_init_49 (lv_at hl 0 rfl) ?_
        refine lv_iconst (v := 1) hx hb dX1_init_51 (by decide) ?_
        refine lv_icmp_ne (tgt := 60) hx hb dX1_init_52 (by decide) (fun c_3 => ?_) (fun c_3 => ?_)
        · skip
          refine lv_iload hx hb dX1_init_60 (lv_at hl 5 rfl) ?_
          refine f_iast X hF 1 (i := i) rfl (by omega) dX1_init_62 (fun H locs hF => ?_)
          have hF : k_F G (k_AN h0 s) s [(h0, .inr (1, [.long x0, .ref q1, .long 0])), (q1, k_ar 3 (G.2.1 0) (upd (k_fil (fun j => if nI j = 0 then x else if nI j = 1 then y else z) i) i (z)))] H locs := hF
          rw [show upd (k_fil (fun j => if nI j = 0 then x else if nI j = 1 then y else z) i) i (z) = k_fil (fun j => if nI j = 0 then x else if nI j = 1 then y else z) (i + 1) from by rw [← k_fil_s]; simp [c_2, c_3]] at hF
          refine lv_iinc (v := nI (i + 1)) (lv' := [(6, .int (nI (i + 1))), (0, .ref h0), (1, .long x0), (3, .int x), (4, .int y), (5, .int z)]) hx hb dX1_init_63 hl (k := 0) rfl (nI_1 i) (by decide) rfl (fun ls hl => ?_)
          refine lv_goto (tgt := 24) hx hb dX1_init_66 (by decide) ?_
          exact ih (i + 1) (by omega) _ _ hF ls (lv_sub hl [0, 1, 2, 3, 4, 5] rfl)
        · skip
          refine lv_iload hx hb dX1_init_55 (lv_at hl 4 rfl) ?_
          refine lv_goto (tgt := 62) hx hb dX1_init_57 (by decide) ?_
          refine f_iast X hF 1 (i := i) rfl (by omega) dX1_init_62 (fun H locs hF => ?_)
          have hF : k_F G (k_AN h0 s) s [(h0, .inr (1, [.long x0, .ref q1, .long 0])), (q1, k_ar 3 (G.2.1 0) (upd (k_fil (fun j => if nI j = 0 then x else if nI j = 1 then y else z) i) i (y)))] H locs := hF
          rw [show upd (k_fil (fun j => if nI j = 0 then x else if nI j = 1 then y else z) i) i (y) = k_fil (fun j => if nI j = 0 then x else if nI j = 1 then y else z) (i + 1) from by rw [← k_fil_s]; simp [c_2, c_3]] at hF
          refine lv_iinc (v := nI (i + 1)) (lv' := [(6, .int (nI (i + 1))), (0, .ref h0), (1, .long x0), (3, .int x), (4, .int y), (5, .int z)]) hx hb dX1_init_63 hl (k := 0) rfl (nI_1 i) (by decide) rfl (fun ls hl => ?_)
          refine lv_goto (tgt := 24) hx hb dX1_init_66 (by decide) ?_
          exact ih (i + 1) (by omega) _ _ hF ls (lv_sub hl [0, 1, 2, 3, 4, 5] rfl)
      · skip
        refine lv_iload_n hx hb dX1_init_45 rfl (lv_at hl 3 rfl) ?_
        refine lv_goto (tgt := 62) hx hb dX1_init_46 (by decide) ?_
        refine f_iast X hF 1 (i := i) rfl (by omega) dX1_init_62 (fun H locs hF => ?_)
        have hF : k_F G (k_AN h0 s) s [(h0, .inr (1, [.long x0, .ref q1, .long 0])), (q1, k_ar 3 (G.2.1 0) (upd (k_fil (fun j => if nI j = 0 then x else if nI j = 1 then y else z) i) i (x)))] H locs := hF
        rw [show upd (k_fil (fun j => if nI j = 0 then x else if nI j = 1 then y else z) i) i (x) = k_fil (fun j => if nI j = 0 then x else if nI j = 1 then y else z) (i + 1) from by rw [← k_fil_s]; simp [c_2]] at hF
        refine lv_iinc (v := nI (i + 1)) (lv' := [(6, .int (nI (i + 1))), (0, .ref h0), (1, .long x0), (3, .int x), (4, .int y), (5, .int z)]) hx hb dX1_init_63 hl (k := 0) rfl (nI_1 i) (by decide) rfl (fun ls hl => ?_)
        refine lv_goto (tgt := 24) hx hb dX1_init_66 (by decide) ?_
        exact ih (i + 1) (by omega) _ _ hF ls (lv_sub hl [0, 1, 2, 3, 4, 5] rfl)
  exact loop 3 0 (by omega) _ _ hF ls (lv_sub hl [0, 1, 2, 3, 4, 5] rfl)
set_option maxHeartbeats 2000000 in
set_option maxRecDepth 100000 in
theorem m_X2_init (l : Launch) (G : k_G) (h0 : Nat) (H0 : Heap) (hA0 : k_A G h0) (h9 : va_at G.1 vwCl (h0, .inr (2, [.null])) H0) : k_Met l yX2_init cX2_init 2 none { frames := 1, cells := 1, slots := 40, locals := 12 } G [.ref h0] (fun H => H = H0) none (fun H => ∃ q1 : Nat, k_Nw G H0 h0 [(h0, .inr (2, [.ref q1])), (q1, k_ar 40 (G.2.1 0) (k_fil (nI) 40))] H) 1 40 := by
  refine k_body (by decide) (Nat.le_of_ble_eq_true rfl) ?_
  intro p e s m below meth c ls X hr hlk hnm hP hS hl
  subst hP
  have hx := X.1.1
  have hb := X.1.2.1
  have hA : ∀ q, s.heap.size ≤ q → k_AN h0 s q := fun q h => Or.inr h
  have hAA : ∀ q, k_AN h0 s q → k_A G q := fun q h => h.elim (fun e => e ▸ hA0) (fun h => Nat.le_trans X.2.2.2.2.2.1 h)
  have hF : k_F G (k_AN h0 s) s [(h0, .inr (2, [.null]))] s.heap [] := k_F.one h9
  suffices hSu : ∀ (H : Heap) (locs : List Loc), k_F G (k_AN h0 s) s [(h0, .inr (2, [.null]))] H locs → W p l e { frames := 1, cells := 1, slots := 40, locals := 12 } s m ([.ref h0] : List Value).toArray below meth c H locs 0 0 (MQ below (k_Q G none (fun H => ∃ q1 : Nat, k_Nw G s.heap h0 [(h0, .inr (2, [.ref q1])), (q1, k_ar 40 (G.2.1 0) (k_fil (nI) 40))] H)) ([.ref h0] : List Value).toArray s 1 40 (k_A G)) (F0 m 0 ls []) from hSu _ _ hF
  intro H locs hF
  have hl : lv_has ls 2 [(0, .ref h0)] := hl
  refine lv_aload_n hx hb dX2_init_0 rfl (lv_at hl 0 rfl) ?_
  refine f_obj X g23 g16 g17 hl.1 (Nat.le_of_ble_eq_true rfl) (Nat.le_of_ble_eq_true rfl) dX2_init_1 ?_
  refine lv_aload_n hx hb dX2_init_4 rfl (lv_at hl 0 rfl) ?_
  refine lv_bipush (v := 40) hx hb dX2_init_5 (by decide) ?_
  refine f_newa X hF hA (atype := .int) (ti := 0) (n := 40) (N' := 40) (a0 := (40, .inl (fun _ => (0 : Int32)))) (Or.inl g28) rfl rfl (fun _ => rfl) (by decide) (by decide) (by decide) (Nat.le_of_ble_eq_true rfl) (Nat.le_of_ble_eq_true rfl) dX2_init_7 (fun q1 H hF => ?_)
  have hF : k_F G (k_AN h0 s) s [(h0, .inr (2, [.null])), (q1, k_ar 40 (G.2.1 0) (fun _ => 0))] H locs := hF
  refine W.cs (cells' := 1) (slots' := 40) rfl rfl ?_
  refine f_putF X hF 0 rfl rfl inG2 tyX2 tyX2_ok nmX2 0 (by decide) g24 rfl hnm rfl rfl rfl (Nat.le_of_ble_eq_true rfl) dX2_init_9 (fun H locs hF => ?_)
  have hF : k_F G (k_AN h0 s) s [(h0, .inr (2, [.ref q1])), (q1, k_ar 40 (G.2.1 0) (fun _ => 0))] H locs := hF
  refine lv_iconst (v := 0) hx hb dX2_init_12 (by decide) ?_
  refine lv_istore_n (lv' := [(1, .int 0), (0, .ref h0)]) hx hb dX2_init_13 rfl hl (by decide) rfl (fun ls hl => ?_)
  have hF : k_F G (k_AN h0 s) s [(h0, .inr (2, [.ref q1])), (q1, k_ar 40 (G.2.1 0) (k_fil (nI) 0))] H locs := by rw [← k_fil_0 (nI)]; exact hF
  have loop : ∀ (d i : Nat), i + d = 40 → ∀ (H : Heap) (locs : List Loc), k_F G (k_AN h0 s) s [(h0, .inr (2, [.ref q1])), (q1, k_ar 40 (G.2.1 0) (k_fil (nI) i))] H locs → ∀ ls : Array Slot, lv_has ls 2 [(1, .int (nI i)), (0, .ref h0)] → W p l e { frames := 1, cells := 1, slots := 40, locals := 12 } s m ([.ref h0] : List Value).toArray below meth c H locs 1 40 (MQ below (k_Q G none (fun H => ∃ q1 : Nat, k_Nw G s.heap h0 [(h0, .inr (2, [.ref q1])), (q1, k_ar 40 (G.2.1 0) (k_fil (nI) 40))] H)) ([.ref h0] : List Value).toArray s 1 40 (k_A G)) (F0 m 14 ls []) := by
    intro d
    induction d with
    | zero =>
      intro i hi H locs hF ls hl
      have hi : i = 40 := by omega
      subst hi
      refine lv_iload_n hx hb dX2_init_14 rfl (lv_at hl 0 rfl) ?_
      refine lv_aload_n hx hb dX2_init_15 rfl (lv_at hl 1 rfl) ?_
      refine f_get X hF 0 rfl rfl inG2 0 (by decide) g24 (v := .ref q1) rfl dX2_init_16 ?_
      refine f_alen X hF 1 rfl (v := 40) rfl dX2_init_19 ?_
      refine lv_icmp_ge (tgt := 36) hx hb dX2_init_20 (by decide) (fun _ => ?_) (fun c_ => absurd (nI_le (a := 40) (b := 40) (by omega) (by omega)) c_)
      exact f_vret X hr hlk hF hAA (⟨q1, hF.nw⟩) (Nat.le_of_ble_eq_true rfl) (Nat.le_of_ble_eq_true rfl) dX2_init_36
    | succ d ih =>
      intro i hi H locs hF ls hl
      refine lv_iload_n hx hb dX2_init_14 rfl (lv_at hl 0 rfl) ?_
      refine lv_aload_n hx hb dX2_init_15 rfl (lv_at hl 1 rfl) ?_
      refine f_get X hF 0 rfl rfl inG2 0 (by decide) g24 (v := .ref q1) rfl dX2_init_16 ?_
      refine f_alen X hF 1 rfl (v := 40) rfl dX2_init_19 ?_
      refine lv_icmp_ge (tgt := 36) hx hb dX2_init_20 (by decide) (fun c_ => absurd c_ (nI_ge (a := i) (b := 40) (by omega) (by omega))) (fun _ => ?_)
      refine lv_aload_n hx hb dX2_init_23 rfl (lv_at hl 1 rfl) ?_
      refine f_get X hF 0 rfl rfl inG2 0 (by decide) g24 (v := .ref q1) rfl dX2_init_24 ?_
      refine lv_iload_n hx hb dX2_init_27 rfl (lv_at hl 0 rfl) ?_
      refine lv_iload_n hx hb dX2_init_28 rfl (lv_at hl 0 rfl) ?_
      refine f_iast X hF 1 (i := i) rfl (by omega) dX2_init_29 (fun H locs hF => ?_)
      have hF : k_F G (k_AN h0 s) s [(h0, .inr (2, [.ref q1])), (q1, k_ar 40 (G.2.1 0) (upd (k_fil (nI) i) i ((nI i))))] H locs := hF
      rw [show upd (k_fil (nI) i) i ((nI i)) = k_fil (nI) (i + 1) from by exact k_fil_s _ _] at hF
      refine lv_iinc (v := nI (i + 1)) (lv' := [(1, .int (nI (i + 1))), (0, .ref h0)]) hx hb dX2_init_30 hl (k := 0) rfl (nI_1 i) (by decide) rfl (fun ls hl => ?_)
      refine lv_goto (tgt := 14) hx hb dX2_init_33 (by decide) ?_
      exact ih (i + 1) (by omega) _ _ hF ls (lv_sub hl [0, 1] rfl)
  exact loop 40 0 (by omega) _ _ hF ls (lv_sub hl [0, 1] rfl)
set_option maxHeartbeats 2000000 in
set_option maxRecDepth 100000 in
theorem m_X3_init (l : Launch) (G : k_G) (h0 : Nat) (H0 : Heap) (hA0 : k_A G h0) (h9 : va_at G.1 vwCl (h0, .inr (3, [.null, .null, .int 0])) H0) : k_Met l yX3_init cX3_init 1 none { frames := 1, cells := 2, slots := 20, locals := 12 } G [.ref h0] (fun H => H = H0) none (fun H => ∃ q1 q2 : Nat, k_Nw G H0 h0 [(h0, .inr (3, [.ref q1, .ref q2, .int 0])), (q1, k_ar 10 (G.2.1 0) (fun _ => 0)), (q2, k_ar 10 (G.2.1 0) (fun _ => 0))] H) 2 20 := by
  refine k_body (by decide) (Nat.le_of_ble_eq_true rfl) ?_
  intro p e s m below meth c ls X hr hlk hnm hP hS hl
  subst hP
  have hx := X.1.1
  have hb := X.1.2.1
  have hA : ∀ q, s.heap.size ≤ q → k_AN h0 s q := fun q h => Or.inr h
  have hAA : ∀ q, k_AN h0 s q → k_A G q := fun q h => h.elim (fun e => e ▸ hA0) (fun h => Nat.le_trans X.2.2.2.2.2.1 h)
  have hF : k_F G (k_AN h0 s) s [(h0, .inr (3, [.null, .null, .int 0]))] s.heap [] := k_F.one h9
  suffices hSu : ∀ (H : Heap) (locs : List Loc), k_F G (k_AN h0 s) s [(h0, .inr (3, [.null, .null, .int 0]))] H locs → W p l e { frames := 1, cells := 2, slots := 20, locals := 12 } s m ([.ref h0] : List Value).toArray below meth c H locs 0 0 (MQ below (k_Q G none (fun H => ∃ q1 q2 : Nat, k_Nw G s.heap h0 [(h0, .inr (3, [.ref q1, .ref q2, .int 0])), (q1, k_ar 10 (G.2.1 0) (fun _ => 0)), (q2, k_ar 10 (G.2.1 0) (fun _ => 0))] H)) ([.ref h0] : List Value).toArray s 2 20 (k_A G)) (F0 m 0 ls []) from hSu _ _ hF
  intro H locs hF
  have hl : lv_has ls 1 [(0, .ref h0)] := hl
  refine lv_aload_n hx hb dX3_init_0 rfl (lv_at hl 0 rfl) ?_
  refine f_obj X g34 g16 g17 hl.1 (Nat.le_of_ble_eq_true rfl) (Nat.le_of_ble_eq_true rfl) dX3_init_1 ?_
  refine lv_aload_n hx hb dX3_init_4 rfl (lv_at hl 0 rfl) ?_
  refine lv_bipush (v := 10) hx hb dX3_init_5 (by decide) ?_
  refine f_newa X hF hA (atype := .int) (ti := 0) (n := 10) (N' := 10) (a0 := (10, .inl (fun _ => (0 : Int32)))) (Or.inl g28) rfl rfl (fun _ => rfl) (by decide) (by decide) (by decide) (Nat.le_of_ble_eq_true rfl) (Nat.le_of_ble_eq_true rfl) dX3_init_7 (fun q1 H hF => ?_)
  have hF : k_F G (k_AN h0 s) s [(h0, .inr (3, [.null, .null, .int 0])), (q1, k_ar 10 (G.2.1 0) (fun _ => 0))] H locs := hF
  refine W.cs (cells' := 1) (slots' := 10) rfl rfl ?_
  refine f_putF X hF 0 rfl rfl inG3 tyX3 tyX3_ok nmX3 0 (by decide) g35 rfl hnm rfl rfl rfl (Nat.le_of_ble_eq_true rfl) dX3_init_9 (fun H locs hF => ?_)
  have hF : k_F G (k_AN h0 s) s [(h0, .inr (3, [.ref q1, .null, .int 0])), (q1, k_ar 10 (G.2.1 0) (fun _ => 0))] H locs := hF
  refine lv_aload_n hx hb dX3_init_12 rfl (lv_at hl 0 rfl) ?_
  refine lv_bipush (v := 10) hx hb dX3_init_13 (by decide) ?_
  refine f_newa X hF hA (atype := .int) (ti := 0) (n := 10) (N' := 10) (a0 := (10, .inl (fun _ => (0 : Int32)))) (Or.inl g28) rfl rfl (fun _ => rfl) (by decide) (by decide) (by decide) (Nat.le_of_ble_eq_true rfl) (Nat.le_of_ble_eq_true rfl) dX3_init_15 (fun q2 H hF => ?_)
  have hF : k_F G (k_AN h0 s) s [(h0, .inr (3, [.ref q1, .null, .int 0])), (q1, k_ar 10 (G.2.1 0) (fun _ => 0)), (q2, k_ar 10 (G.2.1 0) (fun _ => 0))] H locs := hF
  refine W.cs (cells' := 2) (slots' := 20) rfl rfl ?_
  refine f_putF X hF 0 rfl rfl inG3 tyX3 tyX3_ok nmX3 1 (by decide) g36 rfl hnm rfl rfl rfl (Nat.le_of_ble_eq_true rfl) dX3_init_17 (fun H locs hF => ?_)
  have hF : k_F G (k_AN h0 s) s [(h0, .inr (3, [.ref q1, .ref q2, .int 0])), (q1, k_ar 10 (G.2.1 0) (fun _ => 0)), (q2, k_ar 10 (G.2.1 0) (fun _ => 0))] H locs := hF
  refine lv_aload_n hx hb dX3_init_20 rfl (lv_at hl 0 rfl) ?_
  refine lv_iconst (v := 0) hx hb dX3_init_21 (by decide) ?_
  refine f_put X hF 0 rfl rfl inG3 tyX3 tyX3_ok nmX3 2 (by decide) g37 rfl rfl rfl (Nat.le_of_ble_eq_true rfl) dX3_init_22 (fun H locs hF => ?_)
  have hF : k_F G (k_AN h0 s) s [(h0, .inr (3, [.ref q1, .ref q2, .int 0])), (q1, k_ar 10 (G.2.1 0) (fun _ => 0)), (q2, k_ar 10 (G.2.1 0) (fun _ => 0))] H locs := hF
  exact f_vret X hr hlk hF hAA (⟨q1, q2, hF.nw⟩) (Nat.le_of_ble_eq_true rfl) (Nat.le_of_ble_eq_true rfl) dX3_init_25
