set_option maxHeartbeats 4000000 in
set_option maxRecDepth 100000 in
theorem m_X5_workPlain (l : Launch) (G : k_G) (ad : Nat → Nat → Nat) (nA nK : Nat) (mA mK : Nat) (E : Nat → Nat) (I : k_I) (J : k_J) (a : Nat) (hs : m_S mA mK E I) (ha : a < mA) : k_Met l yX5_workPlain cX5_workPlain 3 none { frames := 0, cells := 0, slots := 0, locals := 0 } G [.ref (ad 13 0), .int (nI a)] (Wd G ad nA nK I J) (none) (Wd G ad nA nK (mWP a I) (mWPJ a J)) 0 0 := by
  refine k_body (by decide) (Nat.le_of_ble_eq_true rfl) ?_
  intro p e s m below meth c ls X hr hlk hnm hW hS hl
  have hx := X.1.1
  have hb := X.1.2.1
  have hG := X.1.2.2.2.2
  have hA24 := hs.2.2.1
  have hK30 := hs.2.2.2.1
  have hl : lv_has ls 3 [(0, .ref (ad 13 0)), (1, .int (nI a))] := hl
  refine lv_aload_n hx hb dX5_workPlain_0 rfl (lv_at hl 0 rfl) ?_
  refine w_get X hW 13 0 Nat.zero_lt_one rfl rfl inG5 19 (by decide) g517 rfl dX5_workPlain_1 ?_
  refine lv_iload_n hx hb dX5_workPlain_4 rfl (lv_at hl 1 rfl) ?_
  refine lv_iconst (v := 1) hx hb dX5_workPlain_5 (by decide) ?_
  refine w_zastN (i := a) X hW hS 39 0 Nat.zero_lt_one rfl rfl (by omega) rfl dX5_workPlain_6 (fun H locs hW hS => ?_)
  obtain ⟨I1, eI1⟩ : ∃ z, z = k_up I 39 0 (upd (I 39 0) a 1) := ⟨_, rfl⟩
  rw [← eI1] at hW
  have hs1 : m_S mA mK E I1 := by rw [eI1]; exact hs.up 39 _ _ (by decide)
  refine lv_aload_n hx hb dX5_workPlain_7 rfl (lv_at hl 0 rfl) ?_
  refine w_get X hW 13 0 Nat.zero_lt_one rfl rfl inG5 20 (by decide) g518 rfl dX5_workPlain_8 ?_
  refine lv_iload_n hx hb dX5_workPlain_11 rfl (lv_at hl 1 rfl) ?_
  refine lv_aload_n hx hb dX5_workPlain_12 rfl (lv_at hl 0 rfl) ?_
  refine w_get X hW 13 0 Nat.zero_lt_one rfl rfl inG5 9 (by decide) g507 rfl dX5_workPlain_13 ?_
  refine lv_iload_n hx hb dX5_workPlain_16 rfl (lv_at hl 1 rfl) ?_
  refine w_laldN (i := a) X hW 29 0 Nat.zero_lt_one rfl (by omega) dX5_workPlain_17 ?_
  refine w_lastN (i := a) X hW hS 40 0 Nat.zero_lt_one rfl (by omega) rfl dX5_workPlain_18 (fun H locs hW hS => ?_)
  obtain ⟨J2, eJ2⟩ : ∃ z, z = k_up J 40 0 (vp_updL (J 40 0) a (J 29 0 a)) := ⟨_, rfl⟩
  rw [← eJ2] at hW
  refine lv_aload_n hx hb dX5_workPlain_19 rfl (lv_at hl 0 rfl) ?_
  refine w_get X hW 13 0 Nat.zero_lt_one rfl rfl inG5 22 (by decide) g520 rfl dX5_workPlain_20 ?_
  refine lv_iload_n hx hb dX5_workPlain_23 rfl (lv_at hl 1 rfl) ?_
  refine lv_aload_n hx hb dX5_workPlain_24 rfl (lv_at hl 0 rfl) ?_
  refine w_get X hW 13 0 Nat.zero_lt_one rfl rfl inG5 12 (by decide) g510 rfl dX5_workPlain_25 ?_
  refine lv_iload_n hx hb dX5_workPlain_28 rfl (lv_at hl 1 rfl) ?_
  refine w_ialdN (i := a) X hW 32 0 Nat.zero_lt_one rfl (by omega) dX5_workPlain_29 ?_
  refine w_iastN (i := a) X hW hS 42 0 Nat.zero_lt_one rfl (by omega) rfl dX5_workPlain_30 (fun H locs hW hS => ?_)
  obtain ⟨I3, eI3⟩ : ∃ z, z = k_up I1 42 0 (upd (I1 42 0) a (I1 32 0 a)) := ⟨_, rfl⟩
  rw [← eI3] at hW
  have hs3 : m_S mA mK E I3 := by rw [eI3]; exact hs1.up 42 _ _ (by decide)
  refine lv_aload_n hx hb dX5_workPlain_31 rfl (lv_at hl 0 rfl) ?_
  refine w_get X hW 13 0 Nat.zero_lt_one rfl rfl inG5 23 (by decide) g521 rfl dX5_workPlain_32 ?_
  refine lv_iload_n hx hb dX5_workPlain_35 rfl (lv_at hl 1 rfl) ?_
  refine lv_iconst (v := 0) hx hb dX5_workPlain_36 (by decide) ?_
  refine w_zastN (i := a) X hW hS 43 0 Nat.zero_lt_one rfl rfl (by omega) rfl dX5_workPlain_37 (fun H locs hW hS => ?_)
  obtain ⟨I4, eI4⟩ : ∃ z, z = k_up I3 43 0 (upd (I3 43 0) a 0) := ⟨_, rfl⟩
  rw [← eI4] at hW
  have hs4 : m_S mA mK E I4 := by rw [eI4]; exact hs3.up 43 _ _ (by decide)
  refine lv_iconst (v := 0) hx hb dX5_workPlain_38 (by decide) ?_
  refine lv_istore_n (lv' := [(2, .int 0), (0, .ref (ad 13 0)), (1, .int (nI a))]) hx hb dX5_workPlain_39 rfl hl (by decide) rfl (fun ls hl => ?_)
  have loop40 : ∀ (d k : Nat) (m1 : k_I), k + d = 3 → (kLoop (fun k I => mw 41 (3 * a + k) (I 31 0 (3 * a + k)) I) d k m1 = mWPs a (mw 43 a 0 (mWPt a (mw 39 a 1 I)))) → (m_S mA mK E m1) → ∀ (H : Heap) (locs : List Loc), Wd G ad nA nK m1 J2 H → va_S (k_A G) s.heap H locs → ∀ ls : Array Slot, lv_has ls 3 [(2, .int (nI k)), (0, .ref (ad 13 0)), (1, .int (nI a))] → W p l e { frames := 0, cells := 0, slots := 0, locals := 0 } s m ([.ref (ad 13 0), .int (nI a)] : List Value).toArray below meth c H locs 0 0 (MQ below (k_Q G (none) (Wd G ad nA nK (mWP a I) (mWPJ a J))) ([.ref (ad 13 0), .int (nI a)] : List Value).toArray s 0 0 (k_A G)) (F0 m 40 ls []) := by
    intro d
    induction d with
    | zero =>
      intro k m1 hi40 hz40 hs_40 H locs hW hS ls hl
      have eIm1 : m1 = mWPs a (mw 43 a 0 (mWPt a (mw 39 a 1 I))) := hz40
      refine lv_iload_n hx hb dX5_workPlain_40 rfl (lv_at hl 0 rfl) ?_
      refine lv_iconst (v := 3) hx hb dX5_workPlain_41 (by decide) ?_
      refine lv_icmp_ge (tgt := 71) hx hb dX5_workPlain_42 (by decide) (fun _ => ?_) (fun c_5 => absurd (nI_le (a := 3) (b := k) (by omega) (by omega)) c_5)
      refine lv_iconst (v := 0) hx hb dX5_workPlain_71 (by decide) ?_
      refine lv_istore_n (lv' := [(2, .int 0), (0, .ref (ad 13 0)), (1, .int (nI a))]) hx hb dX5_workPlain_72 rfl hl (by decide) rfl (fun ls hl => ?_)
      have loop73 : ∀ (d t : Nat) (m2 : k_I), t + d = 10 → (kLoop (mWPd1 a) d t m2 = mWPd a m1) → (m_S mA mK E m2) → ∀ (H : Heap) (locs : List Loc), Wd G ad nA nK m2 J2 H → va_S (k_A G) s.heap H locs → ∀ ls : Array Slot, lv_has ls 3 [(2, .int (nI t)), (0, .ref (ad 13 0)), (1, .int (nI a))] → W p l e { frames := 0, cells := 0, slots := 0, locals := 0 } s m ([.ref (ad 13 0), .int (nI a)] : List Value).toArray below meth c H locs 0 0 (MQ below (k_Q G (none) (Wd G ad nA nK (mWP a I) (mWPJ a J))) ([.ref (ad 13 0), .int (nI a)] : List Value).toArray s 0 0 (k_A G)) (F0 m 73 ls []) := by
        intro d
        induction d with
        | zero =>
          intro t m2 hi73 hz73 hs_73 H locs hW hS ls hl
          have eIm2 : m2 = mWPd a m1 := hz73
          refine lv_iload_n hx hb dX5_workPlain_73 rfl (lv_at hl 0 rfl) ?_
          refine lv_bipush (v := 10) hx hb dX5_workPlain_74 (by decide) ?_
          refine lv_icmp_ge (tgt := 134) hx hb dX5_workPlain_76 (by decide) (fun _ => ?_) (fun c_6 => absurd (nI_le (a := 10) (b := t) (by omega) (by omega)) c_6)
          exact w_vret X hr hlk hS (hW.to (by first | rfl | (subst eIm2 eIm1 eI4 eI3 eJ2 eI1; simp []; done) | (subst eIm2 eIm1 eI4 eI3 eJ2 eI1; rfl) | (subst eIm2 eIm1 eI4 eI3 eJ2 eI1; simp []; done) | (subst eIm2 eIm1 eI4 eI3 eJ2 eI1; simp []; rfl) | (simp [eI1, eJ2, eI3, eI4, eIm1, eIm2]; done)) (by first | rfl | (subst eIm2 eIm1 eI4 eI3 eJ2 eI1; simp []; done) | (subst eIm2 eIm1 eI4 eI3 eJ2 eI1; rfl) | (subst eIm2 eIm1 eI4 eI3 eJ2 eI1; simp []; done) | (subst eIm2 eIm1 eI4 eI3 eJ2 eI1; simp []; rfl) | (simp [eI1, eJ2, eI3, eI4, eIm1, eIm2]; done))) dX5_workPlain_134
        | succ d ih =>
          intro t m2 hi73 hz73 hs_73 H locs hW hS ls hl
          have hlt73 : t < 10 := by omega
          have ih73 := ih
          refine lv_iload_n hx hb dX5_workPlain_73 rfl (lv_at hl 0 rfl) ?_
          refine lv_bipush (v := 10) hx hb dX5_workPlain_74 (by decide) ?_
          refine lv_icmp_ge (tgt := 134) hx hb dX5_workPlain_76 (by decide) (fun c_7 => absurd c_7 (nI_ge (a := t) (b := 10) (by omega) (by omega))) (fun _ => ?_)
          refine lv_aload_n hx hb dX5_workPlain_79 rfl (lv_at hl 1 rfl) ?_
          refine w_get X hW 13 0 Nat.zero_lt_one rfl rfl inG5 23 (by decide) g521 rfl dX5_workPlain_80 ?_
          refine lv_iload_n hx hb dX5_workPlain_83 rfl (lv_at hl 2 rfl) ?_
          refine lv_aload_n hx hb dX5_workPlain_84 rfl (lv_at hl 1 rfl) ?_
          refine w_get X hW 13 0 Nat.zero_lt_one rfl rfl inG5 23 (by decide) g521 rfl dX5_workPlain_85 ?_
          refine lv_iload_n hx hb dX5_workPlain_88 rfl (lv_at hl 2 rfl) ?_
          refine w_zaldN (i := a) X hW 43 0 Nat.zero_lt_one rfl (by omega) dX5_workPlain_89 ?_
          refine lv_if_ne (tgt := 122) hx hb dX5_workPlain_90 (by decide) (fun c_8 => ?_) (fun c_8 => ?_)
          · skip
            refine lv_iconst (v := 1) hx hb dX5_workPlain_122 (by decide) ?_
            refine lv_goto (tgt := 127) hx hb dX5_workPlain_123 (by decide) ?_
            refine w_zastN (i := a) X hW hS 43 0 Nat.zero_lt_one rfl rfl (by omega) rfl dX5_workPlain_127 (fun H locs hW hS => ?_)
            obtain ⟨I9, eI9⟩ : ∃ z, z = k_up m2 43 0 (upd (m2 43 0) a 1) := ⟨_, rfl⟩
            rw [← eI9] at hW
            have hs9 : m_S mA mK E I9 := by rw [eI9]; exact hs_73.up 43 _ _ (by decide)
            refine lv_iinc (v := nI (t + 1)) (lv' := [(2, .int (nI (t + 1))), (0, .ref (ad 13 0)), (1, .int (nI a))]) hx hb dX5_workPlain_128 hl (k := 0) rfl (nI_1 t) (by decide) rfl (fun ls hl => ?_)
            refine lv_goto (tgt := 73) hx hb dX5_workPlain_131 (by decide) ?_
            exact ih73 (t + 1) I9 (by omega) (by subst eI9; first | exact hz73 | (rw [← hz73]; simp [kLoop, mWPd1, mw, c_8]; done) | (rw [← hz73]; simp [kLoop, mWPd1, mw, c_8]; rfl)) hs9 _ _ hW hS ls (lv_sub hl [0, 1, 2] rfl)
          · skip
            refine lv_aload_n hx hb dX5_workPlain_93 rfl (lv_at hl 1 rfl) ?_
            refine w_get X hW 13 0 Nat.zero_lt_one rfl rfl inG5 12 (by decide) g510 rfl dX5_workPlain_94 ?_
            refine lv_iload_n hx hb dX5_workPlain_97 rfl (lv_at hl 2 rfl) ?_
            refine w_ialdN (i := a) X hW 32 0 Nat.zero_lt_one rfl (by omega) dX5_workPlain_98 ?_
            refine lv_iload_n hx hb dX5_workPlain_99 rfl (lv_at hl 0 rfl) ?_
            refine lv_ishr hx hb dX5_workPlain_100 ?_
            refine lv_iconst (v := 1) hx hb dX5_workPlain_101 (by decide) ?_
            refine lv_iand hx hb dX5_workPlain_102 ?_
            refine lv_iconst (v := 1) hx hb dX5_workPlain_103 (by decide) ?_
            refine lv_icmp_ne (tgt := 126) hx hb dX5_workPlain_104 (by decide) (fun c_10 => ?_) (fun c_10 => ?_)
            · skip
              refine lv_iconst (v := 0) hx hb dX5_workPlain_126 (by decide) ?_
              refine w_zastN (i := a) X hW hS 43 0 Nat.zero_lt_one rfl rfl (by omega) rfl dX5_workPlain_127 (fun H locs hW hS => ?_)
              obtain ⟨I11, eI11⟩ : ∃ z, z = k_up m2 43 0 (upd (m2 43 0) a 0) := ⟨_, rfl⟩
              rw [← eI11] at hW
              have hs11 : m_S mA mK E I11 := by rw [eI11]; exact hs_73.up 43 _ _ (by decide)
              refine lv_iinc (v := nI (t + 1)) (lv' := [(2, .int (nI (t + 1))), (0, .ref (ad 13 0)), (1, .int (nI a))]) hx hb dX5_workPlain_128 hl (k := 0) rfl (nI_1 t) (by decide) rfl (fun ls hl => ?_)
              refine lv_goto (tgt := 73) hx hb dX5_workPlain_131 (by decide) ?_
              exact ih73 (t + 1) I11 (by omega) (by subst eI11; first | exact hz73 | (rw [← hz73]; simp [kLoop, mWPd1, mw, c_8, c_10]; done) | (rw [← hz73]; simp [kLoop, mWPd1, mw, c_8, c_10]; rfl)) hs11 _ _ hW hS ls (lv_sub hl [0, 1, 2] rfl)
            · skip
              refine lv_aload_n hx hb dX5_workPlain_107 rfl (lv_at hl 1 rfl) ?_
              refine w_get X hW 13 0 Nat.zero_lt_one rfl rfl inG5 2 (by decide) g500 rfl dX5_workPlain_108 ?_
              refine lv_iload_n hx hb dX5_workPlain_111 rfl (lv_at hl 0 rfl) ?_
              refine w_ialdN (i := t) X hW 22 0 Nat.zero_lt_one rfl (by omega) dX5_workPlain_112 ?_
              refine lv_aload_n hx hb dX5_workPlain_113 rfl (lv_at hl 1 rfl) ?_
              refine w_get X hW 13 0 Nat.zero_lt_one rfl rfl inG5 13 (by decide) g511 rfl dX5_workPlain_114 ?_
              refine lv_iload_n hx hb dX5_workPlain_117 rfl (lv_at hl 2 rfl) ?_
              refine w_ialdN (i := a) X hW 33 0 Nat.zero_lt_one rfl (by omega) dX5_workPlain_118 ?_
              refine lv_icmp_le (tgt := 126) hx hb dX5_workPlain_119 (by decide) (fun c_12 => ?_) (fun c_12 => ?_)
              · skip
                refine lv_iconst (v := 0) hx hb dX5_workPlain_126 (by decide) ?_
                refine w_zastN (i := a) X hW hS 43 0 Nat.zero_lt_one rfl rfl (by omega) rfl dX5_workPlain_127 (fun H locs hW hS => ?_)
                obtain ⟨I13, eI13⟩ : ∃ z, z = k_up m2 43 0 (upd (m2 43 0) a 0) := ⟨_, rfl⟩
                rw [← eI13] at hW
                have hs13 : m_S mA mK E I13 := by rw [eI13]; exact hs_73.up 43 _ _ (by decide)
                refine lv_iinc (v := nI (t + 1)) (lv' := [(2, .int (nI (t + 1))), (0, .ref (ad 13 0)), (1, .int (nI a))]) hx hb dX5_workPlain_128 hl (k := 0) rfl (nI_1 t) (by decide) rfl (fun ls hl => ?_)
                refine lv_goto (tgt := 73) hx hb dX5_workPlain_131 (by decide) ?_
                exact ih73 (t + 1) I13 (by omega) (by subst eI13; first | exact hz73 | (rw [← hz73]; simp [kLoop, mWPd1, mw, c_8, c_10, c_12]; done) | (rw [← hz73]; simp [kLoop, mWPd1, mw, c_8, c_10, c_12]; rfl)) hs13 _ _ hW hS ls (lv_sub hl [0, 1, 2] rfl)
              · skip
                refine lv_iconst (v := 1) hx hb dX5_workPlain_122 (by decide) ?_
                refine lv_goto (tgt := 127) hx hb dX5_workPlain_123 (by decide) ?_
                refine w_zastN (i := a) X hW hS 43 0 Nat.zero_lt_one rfl rfl (by omega) rfl dX5_workPlain_127 (fun H locs hW hS => ?_)
                obtain ⟨I14, eI14⟩ : ∃ z, z = k_up m2 43 0 (upd (m2 43 0) a 1) := ⟨_, rfl⟩
                rw [← eI14] at hW
                have hs14 : m_S mA mK E I14 := by rw [eI14]; exact hs_73.up 43 _ _ (by decide)
                refine lv_iinc (v := nI (t + 1)) (lv' := [(2, .int (nI (t + 1))), (0, .ref (ad 13 0)), (1, .int (nI a))]) hx hb dX5_workPlain_128 hl (k := 0) rfl (nI_1 t) (by decide) rfl (fun ls hl => ?_)
                refine lv_goto (tgt := 73) hx hb dX5_workPlain_131 (by decide) ?_
                exact ih73 (t + 1) I14 (by omega) (by subst eI14; first | exact hz73 | (rw [← hz73]; simp [kLoop, mWPd1, mw, c_8, c_10, c_12]; done) | (rw [← hz73]; simp [kLoop, mWPd1, mw, c_8, c_10, c_12]; rfl)) hs14 _ _ hW hS ls (lv_sub hl [0, 1, 2] rfl)
      exact loop73 10 0 m1 (by omega) rfl hs_40 _ _ hW hS ls (lv_sub hl [0, 1, 2] rfl)
    | succ d ih =>
      intro k m1 hi40 hz40 hs_40 H locs hW hS ls hl
      have hlt40 : k < 3 := by omega
      have ih40 := ih
      refine lv_iload_n hx hb dX5_workPlain_40 rfl (lv_at hl 0 rfl) ?_
      refine lv_iconst (v := 3) hx hb dX5_workPlain_41 (by decide) ?_
      refine lv_icmp_ge (tgt := 71) hx hb dX5_workPlain_42 (by decide) (fun c_15 => absurd c_15 (nI_ge (a := k) (b := 3) (by omega) (by omega))) (fun _ => ?_)
      refine lv_aload_n hx hb dX5_workPlain_45 rfl (lv_at hl 1 rfl) ?_
      refine w_get X hW 13 0 Nat.zero_lt_one rfl rfl inG5 21 (by decide) g519 rfl dX5_workPlain_46 ?_
      refine lv_iconst (v := 3) hx hb dX5_workPlain_49 (by decide) ?_
      refine lv_iload_n hx hb dX5_workPlain_50 rfl (lv_at hl 2 rfl) ?_
      refine lw_imulN (a := 3) (b := a) hx hb dX5_workPlain_51 ?_
      refine lv_iload_n hx hb dX5_workPlain_52 rfl (lv_at hl 0 rfl) ?_
      refine lw_iaddN (a := 3 * a) (b := k) hx hb dX5_workPlain_53 ?_
      refine lv_aload_n hx hb dX5_workPlain_54 rfl (lv_at hl 1 rfl) ?_
      refine w_get X hW 13 0 Nat.zero_lt_one rfl rfl inG5 11 (by decide) g509 rfl dX5_workPlain_55 ?_
      refine lv_iconst (v := 3) hx hb dX5_workPlain_58 (by decide) ?_
      refine lv_iload_n hx hb dX5_workPlain_59 rfl (lv_at hl 2 rfl) ?_
      refine lw_imulN (a := 3) (b := a) hx hb dX5_workPlain_60 ?_
      refine lv_iload_n hx hb dX5_workPlain_61 rfl (lv_at hl 0 rfl) ?_
      refine lw_iaddN (a := 3 * a) (b := k) hx hb dX5_workPlain_62 ?_
      refine w_ialdN (i := 3 * a + k) X hW 31 0 Nat.zero_lt_one rfl (by omega) dX5_workPlain_63 ?_
      refine w_iastN (i := 3 * a + k) X hW hS 41 0 Nat.zero_lt_one rfl (by omega) rfl dX5_workPlain_64 (fun H locs hW hS => ?_)
      obtain ⟨I16, eI16⟩ : ∃ z, z = k_up m1 41 0 (upd (m1 41 0) (3 * a + k) (m1 31 0 (3 * a + k))) := ⟨_, rfl⟩
      rw [← eI16] at hW
      have hs16 : m_S mA mK E I16 := by rw [eI16]; exact hs_40.up 41 _ _ (by decide)
      refine lv_iinc (v := nI (k + 1)) (lv' := [(2, .int (nI (k + 1))), (0, .ref (ad 13 0)), (1, .int (nI a))]) hx hb dX5_workPlain_65 hl (k := 0) rfl (nI_1 k) (by decide) rfl (fun ls hl => ?_)
      refine lv_goto (tgt := 40) hx hb dX5_workPlain_68 (by decide) ?_
      exact ih40 (k + 1) I16 (by omega) (by subst eI16; first | exact hz40 | (rw [← hz40]; simp [kLoop, mWPd1, mw]; done) | (rw [← hz40]; simp [kLoop, mWPd1, mw]; rfl)) hs16 _ _ hW hS ls (lv_sub hl [0, 1, 2] rfl)
  exact loop40 3 0 I4 (by omega) (by rw [eI4, eI3, eI1]; rfl) hs4 _ _ hW hS ls (lv_sub hl [0, 1, 2] rfl)
set_option maxHeartbeats 4000000 in
set_option maxRecDepth 100000 in
theorem m_X5_workJoined (l : Launch) (G : k_G) (ad : Nat → Nat → Nat) (nA nK : Nat) (mA mK : Nat) (E : Nat → Nat) (I : k_I) (J : k_J) (a : Nat) (hs : m_S mA mK E I) (ha : a < mA) : k_Met l yX5_workJoined cX5_workJoined 6 none { frames := 1, cells := 0, slots := 0, locals := 22 } G [.ref (ad 13 0), .int (nI a)] (Wd G ad nA nK I J) (none) (Wd G ad nA nK ((mWJ E a (I, J)).1) ((mWJ E a (I, J)).2)) 0 0 := by
  refine k_body (by decide) (Nat.le_of_ble_eq_true rfl) ?_
  intro p e s m below meth c ls X hr hlk hnm hW hS hl
  have hx := X.1.1
  have hb := X.1.2.1
  have hG := X.1.2.2.2.2
  have hA24 := hs.2.2.1
  have hK30 := hs.2.2.2.1
  have hl : lv_has ls 6 [(0, .ref (ad 13 0)), (1, .int (nI a))] := hl
  refine lv_iconst (v := 1) hx hb dX5_workJoined_0 (by decide) ?_
  refine lv_istore_n (lv' := [(2, .int 1), (0, .ref (ad 13 0)), (1, .int (nI a))]) hx hb dX5_workJoined_1 rfl hl (by decide) rfl (fun ls hl => ?_)
  refine lv_iconst (v := 0) hx hb dX5_workJoined_2 (by decide) ?_
  refine lv_istore_n (lv' := [(3, .int 0), (2, .int 1), (0, .ref (ad 13 0)), (1, .int (nI a))]) hx hb dX5_workJoined_3 rfl hl (by decide) rfl (fun ls hl => ?_)
  have loop4 : ∀ (d j : Nat) (b : Bool), j + d = 4 → (kLoop (mCan1 E I a) d j b = mCan E I a) → ∀ (H : Heap) (locs : List Loc), Wd G ad nA nK I J H → va_S (k_A G) s.heap H locs → ∀ ls : Array Slot, lv_has ls 6 [(3, .int (nI j)), (2, .int (k_b b)), (0, .ref (ad 13 0)), (1, .int (nI a))] → W p l e { frames := 1, cells := 0, slots := 0, locals := 22 } s m ([.ref (ad 13 0), .int (nI a)] : List Value).toArray below meth c H locs 0 0 (MQ below (k_Q G (none) (Wd G ad nA nK ((mWJ E a (I, J)).1) ((mWJ E a (I, J)).2))) ([.ref (ad 13 0), .int (nI a)] : List Value).toArray s 0 0 (k_A G)) (F0 m 4 ls []) := by
    intro d
    induction d with
    | zero =>
      intro j b hi4 hz4  H locs hW hS ls hl
      have hz4 : b = mCan E I a := hz4
      refine lv_iload_n hx hb dX5_workJoined_4 rfl (lv_at hl 0 rfl) ?_
      refine lv_iconst (v := 4) hx hb dX5_workJoined_5 (by decide) ?_
      refine lv_icmp_ge (tgt := 60) hx hb dX5_workJoined_6 (by decide) (fun _ => ?_) (fun c_1 => absurd (nI_le (a := 4) (b := j) (by omega) (by omega)) c_1)
      refine lv_iload_n hx hb dX5_workJoined_60 rfl (lv_at hl 1 rfl) ?_
      refine lb_if_ne (tgt := 65) hx hb dX5_workJoined_61 (by decide) (fun c_2 => ?_) (fun c_2 => ?_)
      · skip
        refine lv_aload_n hx hb dX5_workJoined_65 rfl (lv_at hl 2 rfl) ?_
        refine w_get X hW 13 0 Nat.zero_lt_one rfl rfl inG5 19 (by decide) g517 rfl dX5_workJoined_66 ?_
        refine lv_iload_n hx hb dX5_workJoined_69 rfl (lv_at hl 3 rfl) ?_
        refine lv_iconst (v := 1) hx hb dX5_workJoined_70 (by decide) ?_
        refine w_zastN (i := a) X hW hS 39 0 Nat.zero_lt_one rfl rfl (by omega) rfl dX5_workJoined_71 (fun H locs hW hS => ?_)
        obtain ⟨I3, eI3⟩ : ∃ z, z = k_up I 39 0 (upd (I 39 0) a 1) := ⟨_, rfl⟩
        rw [← eI3] at hW
        have hs3 : m_S mA mK E I3 := by rw [eI3]; exact hs.up 39 _ _ (by decide)
        refine lv_aload_n hx hb dX5_workJoined_72 rfl (lv_at hl 2 rfl) ?_
        refine w_get X hW 13 0 Nat.zero_lt_one rfl rfl inG5 20 (by decide) g518 rfl dX5_workJoined_73 ?_
        refine lv_iload_n hx hb dX5_workJoined_76 rfl (lv_at hl 3 rfl) ?_
        refine lv_lconst (v := 0) hx hb dX5_workJoined_77 (by decide) ?_
        refine w_lastN (i := a) X hW hS 40 0 Nat.zero_lt_one rfl (by omega) rfl dX5_workJoined_78 (fun H locs hW hS => ?_)
        obtain ⟨J4, eJ4⟩ : ∃ z, z = k_up J 40 0 (vp_updL (J 40 0) a 0) := ⟨_, rfl⟩
        rw [← eJ4] at hW
        refine lv_aload_n hx hb dX5_workJoined_79 rfl (lv_at hl 2 rfl) ?_
        refine w_get X hW 13 0 Nat.zero_lt_one rfl rfl inG5 22 (by decide) g520 rfl dX5_workJoined_80 ?_
        refine lv_iload_n hx hb dX5_workJoined_83 rfl (lv_at hl 3 rfl) ?_
        refine lv_iconst (v := 0) hx hb dX5_workJoined_84 (by decide) ?_
        refine w_iastN (i := a) X hW hS 42 0 Nat.zero_lt_one rfl (by omega) rfl dX5_workJoined_85 (fun H locs hW hS => ?_)
        obtain ⟨I5, eI5⟩ : ∃ z, z = k_up I3 42 0 (upd (I3 42 0) a 0) := ⟨_, rfl⟩
        rw [← eI5] at hW
        have hs5 : m_S mA mK E I5 := by rw [eI5]; exact hs3.up 42 _ _ (by decide)
        refine lv_aload_n hx hb dX5_workJoined_86 rfl (lv_at hl 2 rfl) ?_
        refine w_get X hW 13 0 Nat.zero_lt_one rfl rfl inG5 23 (by decide) g521 rfl dX5_workJoined_87 ?_
        refine lv_iload_n hx hb dX5_workJoined_90 rfl (lv_at hl 3 rfl) ?_
        refine lv_iconst (v := 0) hx hb dX5_workJoined_91 (by decide) ?_
        refine w_zastN (i := a) X hW hS 43 0 Nat.zero_lt_one rfl rfl (by omega) rfl dX5_workJoined_92 (fun H locs hW hS => ?_)
        obtain ⟨I6, eI6⟩ : ∃ z, z = k_up I5 43 0 (upd (I5 43 0) a 0) := ⟨_, rfl⟩
        rw [← eI6] at hW
        have hs6 : m_S mA mK E I6 := by rw [eI6]; exact hs5.up 43 _ _ (by decide)
        refine lv_iconst (v := 0) hx hb dX5_workJoined_93 (by decide) ?_
        refine lv_istore_n (lv' := [(3, .int 0), (2, .int (k_b b)), (0, .ref (ad 13 0)), (1, .int (nI a))]) hx hb dX5_workJoined_94 rfl hl (by decide) rfl (fun ls hl => ?_)
        have loop95 : ∀ (d k : Nat) (m1 : k_I), k + d = 3 → (kLoop (fun k I => mw 41 (3 * a + k) (mAllOf (nI k)) I) d k m1 = mWJ0 a I) → (m_S mA mK E m1) → ∀ (H : Heap) (locs : List Loc), Wd G ad nA nK m1 J4 H → va_S (k_A G) s.heap H locs → ∀ ls : Array Slot, lv_has ls 6 [(3, .int (nI k)), (0, .ref (ad 13 0)), (1, .int (nI a))] → W p l e { frames := 1, cells := 0, slots := 0, locals := 22 } s m ([.ref (ad 13 0), .int (nI a)] : List Value).toArray below meth c H locs 0 0 (MQ below (k_Q G (none) (Wd G ad nA nK ((mWJ E a (I, J)).1) ((mWJ E a (I, J)).2))) ([.ref (ad 13 0), .int (nI a)] : List Value).toArray s 0 0 (k_A G)) (F0 m 95 ls []) := by
          intro d
          induction d with
          | zero =>
            intro k m1 hi95 hz95 hs_95 H locs hW hS ls hl
            have eIm1 : m1 = mWJ0 a I := hz95
            refine lv_iload_n hx hb dX5_workJoined_95 rfl (lv_at hl 0 rfl) ?_
            refine lv_iconst (v := 3) hx hb dX5_workJoined_96 (by decide) ?_
            refine lv_icmp_ge (tgt := 120) hx hb dX5_workJoined_97 (by decide) (fun _ => ?_) (fun c_7 => absurd (nI_le (a := 3) (b := k) (by omega) (by omega)) c_7)
            refine lv_iconst (v := 0) hx hb dX5_workJoined_120 (by decide) ?_
            refine lv_istore_n (lv' := [(3, .int 0), (0, .ref (ad 13 0)), (1, .int (nI a))]) hx hb dX5_workJoined_121 rfl hl (by decide) rfl (fun ls hl => ?_)
            have loop122 : ∀ (d k : Nat) (m2 : k_I) (q2 : k_J), k + d = 4 → (mWJL E a d k (m2, q2) = mWJL E a 4 0 (mWJ0 a I, mwJ 40 a 0 J)) → (m_S mA mK E m2) → ∀ (H : Heap) (locs : List Loc), Wd G ad nA nK m2 q2 H → va_S (k_A G) s.heap H locs → ∀ ls : Array Slot, lv_has ls 6 [(3, .int (nI k)), (0, .ref (ad 13 0)), (1, .int (nI a))] → W p l e { frames := 1, cells := 0, slots := 0, locals := 22 } s m ([.ref (ad 13 0), .int (nI a)] : List Value).toArray below meth c H locs 0 0 (MQ below (k_Q G (none) (Wd G ad nA nK ((mWJ E a (I, J)).1) ((mWJ E a (I, J)).2))) ([.ref (ad 13 0), .int (nI a)] : List Value).toArray s 0 0 (k_A G)) (F0 m 122 ls []) := by
              intro d
              induction d with
              | zero =>
                intro k m2 q2 hi122 hz122 hs_122 H locs hW hS ls hl
                refine lv_iload_n hx hb dX5_workJoined_122 rfl (lv_at hl 0 rfl) ?_
                refine lv_iconst (v := 4) hx hb dX5_workJoined_123 (by decide) ?_
                refine lv_icmp_ge (tgt := 265) hx hb dX5_workJoined_124 (by decide) (fun _ => ?_) (fun c_8 => absurd (nI_le (a := 4) (b := k) (by omega) (by omega)) c_8)
                exact w_vret X hr hlk hS (hW.to (by have hz9 : (m2, q2) = mWJL E a 4 0 (mWJ0 a I, mwJ 40 a 0 J) := hz122; unfold mWJ; rw [if_pos (by rw [← hz4, c_2])]; exact congrArg Prod.fst hz9) (by have hz9 : (m2, q2) = mWJL E a 4 0 (mWJ0 a I, mwJ 40 a 0 J) := hz122; unfold mWJ; rw [if_pos (by rw [← hz4, c_2])]; exact congrArg Prod.snd hz9)) dX5_workJoined_265
              | succ d ih =>
                intro k m2 q2 hi122 hz122 hs_122 H locs hW hS ls hl
                have hlt122 : k < 4 := by omega
                have ih122 := ih
                refine lv_iload_n hx hb dX5_workJoined_122 rfl (lv_at hl 0 rfl) ?_
                refine lv_iconst (v := 4) hx hb dX5_workJoined_123 (by decide) ?_
                refine lv_icmp_ge (tgt := 265) hx hb dX5_workJoined_124 (by decide) (fun c_9 => absurd c_9 (nI_ge (a := k) (b := 4) (by omega) (by omega))) (fun _ => ?_)
                refine lv_aload_n hx hb dX5_workJoined_127 rfl (lv_at hl 1 rfl) ?_
                refine w_get X hW 13 0 Nat.zero_lt_one rfl rfl inG5 15 (by decide) g513 rfl dX5_workJoined_128 ?_
                refine lv_iconst (v := 4) hx hb dX5_workJoined_131 (by decide) ?_
                refine lv_iload_n hx hb dX5_workJoined_132 rfl (lv_at hl 2 rfl) ?_
                refine lw_imulN (a := 4) (b := a) hx hb dX5_workJoined_133 ?_
                refine lv_iload_n hx hb dX5_workJoined_134 rfl (lv_at hl 0 rfl) ?_
                refine lw_iaddN (a := 4 * a) (b := k) hx hb dX5_workJoined_135 ?_
                refine w_ialdN (i := 4 * a + k) X hW 35 0 Nat.zero_lt_one rfl (by omega) dX5_workJoined_136 ?_
                refine lv_if_lt (tgt := 265) hx hb dX5_workJoined_137 (by decide) (fun c_10 => ?_) (fun c_10 => ?_)
                · skip
                  exact w_vret X hr hlk hS (hW.to (by have hz9 : (m2, q2) = mWJL E a 4 0 (mWJ0 a I, mwJ 40 a 0 J) := (by rw [← hz122]; simp only [mWJL, c_10, if_true]); unfold mWJ; rw [if_pos (by rw [← hz4, c_2])]; exact congrArg Prod.fst hz9) (by have hz9 : (m2, q2) = mWJL E a 4 0 (mWJ0 a I, mwJ 40 a 0 J) := (by rw [← hz122]; simp only [mWJL, c_10, if_true]); unfold mWJ; rw [if_pos (by rw [← hz4, c_2])]; exact congrArg Prod.snd hz9)) dX5_workJoined_265
                · skip
                  have hp11 : ∃ p, p < mA ∧ m2 35 0 (4 * a + k) = nI p := hs_122.part (by omega) c_10
                  refine lv_aload_n hx hb dX5_workJoined_140 rfl (lv_at hl 1 rfl) ?_
                  refine lv_aload_n hx hb dX5_workJoined_141 rfl (lv_at hl 1 rfl) ?_
                  refine w_get X hW 13 0 Nat.zero_lt_one rfl rfl inG5 15 (by decide) g513 rfl dX5_workJoined_142 ?_
                  refine lv_iconst (v := 4) hx hb dX5_workJoined_145 (by decide) ?_
                  refine lv_iload_n hx hb dX5_workJoined_146 rfl (lv_at hl 2 rfl) ?_
                  refine lw_imulN (a := 4) (b := a) hx hb dX5_workJoined_147 ?_
                  refine lv_iload_n hx hb dX5_workJoined_148 rfl (lv_at hl 0 rfl) ?_
                  refine lw_iaddN (a := 4 * a) (b := k) hx hb dX5_workJoined_149 ?_
                  refine w_ialdN (i := 4 * a + k) X hW 35 0 Nat.zero_lt_one rfl (by omega) dX5_workJoined_150 ?_
                  refine w_cV1 X hS (m_X5_endOf_x l G ad nA nK mA mK E m2 q2 (m2 35 0 (4 * a + k)) hs_122 hp11) rfl rfl g643 g4 g640 g642 p35 hd_X5_endOf ⟨Nat.le_of_ble_eq_true rfl, Nat.le_of_ble_eq_true rfl⟩ (k_rec X hW 13 0 Nat.zero_lt_one rfl rfl) hW hl.1 rfl (Nat.le_of_ble_eq_true rfl) dX5_workJoined_151 (Nat.zero_le _) (Nat.zero_le _) (fun H locs hW hS => ?_)
                  have hE12 : mE E (m2 35 0 (4 * a + k)) < mA := hs_122.eb hp11
                  refine lv_istore (lv' := [(4, .int (nI (mE E (m2 35 0 (4 * a + k))))), (3, .int (nI k)), (0, .ref (ad 13 0)), (1, .int (nI a))]) hx hb dX5_workJoined_154 hl (by decide) rfl (fun ls hl => ?_)
                  refine lv_aload_n hx hb dX5_workJoined_156 rfl (lv_at hl 2 rfl) ?_
                  refine w_get X hW 13 0 Nat.zero_lt_one rfl rfl inG5 20 (by decide) g518 rfl dX5_workJoined_157 ?_
                  refine lv_iload_n hx hb dX5_workJoined_160 rfl (lv_at hl 3 rfl) ?_
                  refine lv_dup2_11 hx hb dX5_workJoined_161 rfl rfl ?_
                  refine w_laldN (i := a) X hW 40 0 Nat.zero_lt_one rfl (by omega) dX5_workJoined_162 ?_
                  refine lv_aload_n hx hb dX5_workJoined_163 rfl (lv_at hl 2 rfl) ?_
                  refine w_get X hW 13 0 Nat.zero_lt_one rfl rfl inG5 20 (by decide) g518 rfl dX5_workJoined_164 ?_
                  refine lv_iload hx hb dX5_workJoined_167 (lv_at hl 0 rfl) ?_
                  refine w_laldN (i := mE E (m2 35 0 (4 * a + k))) X hW 40 0 Nat.zero_lt_one rfl (by omega) dX5_workJoined_169 ?_
                  refine lv_lor hx hb dX5_workJoined_170 ?_
                  refine w_lastN (i := a) X hW hS 40 0 Nat.zero_lt_one rfl (by omega) rfl dX5_workJoined_171 (fun H locs hW hS => ?_)
                  obtain ⟨J13, eJ13⟩ : ∃ z, z = k_up q2 40 0 (vp_updL (q2 40 0) a ((q2 40 0 a) ||| (q2 40 0 (mE E (m2 35 0 (4 * a + k)))))) := ⟨_, rfl⟩
                  rw [← eJ13] at hW
                  refine lv_aload_n hx hb dX5_workJoined_172 rfl (lv_at hl 2 rfl) ?_
                  refine w_get X hW 13 0 Nat.zero_lt_one rfl rfl inG5 22 (by decide) g520 rfl dX5_workJoined_173 ?_
                  refine lv_iload_n hx hb dX5_workJoined_176 rfl (lv_at hl 3 rfl) ?_
                  refine lv_dup2_11 hx hb dX5_workJoined_177 rfl rfl ?_
                  refine w_ialdN (i := a) X hW 42 0 Nat.zero_lt_one rfl (by omega) dX5_workJoined_178 ?_
                  refine lv_aload_n hx hb dX5_workJoined_179 rfl (lv_at hl 2 rfl) ?_
                  refine w_get X hW 13 0 Nat.zero_lt_one rfl rfl inG5 22 (by decide) g520 rfl dX5_workJoined_180 ?_
                  refine lv_iload hx hb dX5_workJoined_183 (lv_at hl 0 rfl) ?_
                  refine w_ialdN (i := mE E (m2 35 0 (4 * a + k))) X hW 42 0 Nat.zero_lt_one rfl (by omega) dX5_workJoined_185 ?_
                  refine lv_ior hx hb dX5_workJoined_186 ?_
                  refine w_iastN (i := a) X hW hS 42 0 Nat.zero_lt_one rfl (by omega) rfl dX5_workJoined_187 (fun H locs hW hS => ?_)
                  obtain ⟨I14, eI14⟩ : ∃ z, z = k_up m2 42 0 (upd (m2 42 0) a ((m2 42 0 a) ||| (m2 42 0 (mE E (m2 35 0 (4 * a + k)))))) := ⟨_, rfl⟩
                  rw [← eI14] at hW
                  have hs14 : m_S mA mK E I14 := by rw [eI14]; exact hs_122.up 42 _ _ (by decide)
                  refine lv_aload_n hx hb dX5_workJoined_188 rfl (lv_at hl 2 rfl) ?_
                  refine w_get X hW 13 0 Nat.zero_lt_one rfl rfl inG5 23 (by decide) g521 rfl dX5_workJoined_189 ?_
                  refine lv_iload_n hx hb dX5_workJoined_192 rfl (lv_at hl 3 rfl) ?_
                  refine lv_aload_n hx hb dX5_workJoined_193 rfl (lv_at hl 2 rfl) ?_
                  refine w_get X hW 13 0 Nat.zero_lt_one rfl rfl inG5 23 (by decide) g521 rfl dX5_workJoined_194 ?_
                  refine lv_iload_n hx hb dX5_workJoined_197 rfl (lv_at hl 3 rfl) ?_
                  refine w_zaldN (i := a) X hW 43 0 Nat.zero_lt_one rfl (by omega) dX5_workJoined_198 ?_
                  refine lv_if_ne (tgt := 212) hx hb dX5_workJoined_199 (by decide) (fun c_15 => ?_) (fun c_15 => ?_)
                  · skip
                    refine lv_iconst (v := 1) hx hb dX5_workJoined_212 (by decide) ?_
                    refine lv_goto (tgt := 217) hx hb dX5_workJoined_213 (by decide) ?_
                    refine w_zastN (i := a) X hW hS 43 0 Nat.zero_lt_one rfl rfl (by omega) rfl dX5_workJoined_217 (fun H locs hW hS => ?_)
                    obtain ⟨I16, eI16⟩ : ∃ z, z = k_up I14 43 0 (upd (I14 43 0) a 1) := ⟨_, rfl⟩
                    rw [← eI16] at hW
                    have hs16 : m_S mA mK E I16 := by rw [eI16]; exact hs14.up 43 _ _ (by decide)
                    refine lv_iconst (v := 0) hx hb dX5_workJoined_218 (by decide) ?_
                    refine lv_istore (lv' := [(5, .int 0), (4, .int (nI (mE E (m2 35 0 (4 * a + k))))), (3, .int (nI k)), (0, .ref (ad 13 0)), (1, .int (nI a))]) hx hb dX5_workJoined_219 hl (by decide) rfl (fun ls hl => ?_)
                    have loop221 : ∀ (d5 k5 : Nat) (m3 : k_I), k5 + d5 = 3 → (kLoop (fun z I => mw 41 (3 * a + z) (I 41 0 (3 * a + z) &&& I 41 0 (3 * (mE E (m2 35 0 (4 * a + k))) + z)) I) d5 k5 m3 = mWJ1s a (mE E (m2 35 0 (4 * a + k))) I16) → (m_S mA mK E m3) → ∀ (H : Heap) (locs : List Loc), Wd G ad nA nK m3 J13 H → va_S (k_A G) s.heap H locs → ∀ ls : Array Slot, lv_has ls 6 [(5, .int (nI k5)), (4, .int (nI (mE E (m2 35 0 (4 * a + k))))), (3, .int (nI k)), (0, .ref (ad 13 0)), (1, .int (nI a))] → W p l e { frames := 1, cells := 0, slots := 0, locals := 22 } s m ([.ref (ad 13 0), .int (nI a)] : List Value).toArray below meth c H locs 0 0 (MQ below (k_Q G (none) (Wd G ad nA nK ((mWJ E a (I, J)).1) ((mWJ E a (I, J)).2))) ([.ref (ad 13 0), .int (nI a)] : List Value).toArray s 0 0 (k_A G)) (F0 m 221 ls []) := by
                      intro d5
                      induction d5 with
                      | zero =>
                        intro k5 m3 hi221 hz221 hs_221 H locs hW hS ls hl
                        have eIm3 : m3 = mWJ1s a (mE E (m2 35 0 (4 * a + k))) I16 := hz221
                        refine lv_iload hx hb dX5_workJoined_221 (lv_at hl 0 rfl) ?_
                        refine lv_iconst (v := 3) hx hb dX5_workJoined_223 (by decide) ?_
                        refine lv_icmp_ge (tgt := 259) hx hb dX5_workJoined_224 (by decide) (fun _ => ?_) (fun c_17 => absurd (nI_le (a := 3) (b := k5) (by omega) (by omega)) c_17)
                        refine lv_iinc (v := nI (k + 1)) (lv' := [(3, .int (nI (k + 1))), (5, .int (nI k5)), (4, .int (nI (mE E (m2 35 0 (4 * a + k))))), (0, .ref (ad 13 0)), (1, .int (nI a))]) hx hb dX5_workJoined_259 hl (k := 2) rfl (nI_1 k) (by decide) rfl (fun ls hl => ?_)
                        refine lv_goto (tgt := 122) hx hb dX5_workJoined_262 (by decide) ?_
                        exact ih122 (k + 1) m3 J13 (by omega) (by rw [← hz122]; simp only [mWJL, c_10, if_false]; rw [show m3 = mWJ1 a (mE E (m2 35 0 (4 * a + k))) m2 from (by rw [eIm3]; unfold mWJ1; rw [show I16 = mWJ1d a (mE E (m2 35 0 (4 * a + k))) (mWJ1t a (mE E (m2 35 0 (4 * a + k))) m2) from (by rw [eI16, show mWJ1t a (mE E (m2 35 0 (4 * a + k))) m2 = I14 from eI14.symm]; unfold mWJ1d; simp [c_15, mw])]), eJ13]; rfl) hs_221 _ _ hW hS ls (lv_sub hl [0, 3, 4] rfl)
                      | succ d5 ih =>
                        intro k5 m3 hi221 hz221 hs_221 H locs hW hS ls hl
                        have hlt221 : k5 < 3 := by omega
                        have ih221 := ih
                        refine lv_iload hx hb dX5_workJoined_221 (lv_at hl 0 rfl) ?_
                        refine lv_iconst (v := 3) hx hb dX5_workJoined_223 (by decide) ?_
                        refine lv_icmp_ge (tgt := 259) hx hb dX5_workJoined_224 (by decide) (fun c_18 => absurd c_18 (nI_ge (a := k5) (b := 3) (by omega) (by omega))) (fun _ => ?_)
                        refine lv_aload_n hx hb dX5_workJoined_227 rfl (lv_at hl 3 rfl) ?_
                        refine w_get X hW 13 0 Nat.zero_lt_one rfl rfl inG5 21 (by decide) g519 rfl dX5_workJoined_228 ?_
                        refine lv_iconst (v := 3) hx hb dX5_workJoined_231 (by decide) ?_
                        refine lv_iload_n hx hb dX5_workJoined_232 rfl (lv_at hl 4 rfl) ?_
                        refine lw_imulN (a := 3) (b := a) hx hb dX5_workJoined_233 ?_
                        refine lv_iload hx hb dX5_workJoined_234 (lv_at hl 0 rfl) ?_
                        refine lw_iaddN (a := 3 * a) (b := k5) hx hb dX5_workJoined_236 ?_
                        refine lv_dup2_11 hx hb dX5_workJoined_237 rfl rfl ?_
                        refine w_ialdN (i := 3 * a + k5) X hW 41 0 Nat.zero_lt_one rfl (by omega) dX5_workJoined_238 ?_
                        refine lv_aload_n hx hb dX5_workJoined_239 rfl (lv_at hl 3 rfl) ?_
                        refine w_get X hW 13 0 Nat.zero_lt_one rfl rfl inG5 21 (by decide) g519 rfl dX5_workJoined_240 ?_
                        refine lv_iconst (v := 3) hx hb dX5_workJoined_243 (by decide) ?_
                        refine lv_iload hx hb dX5_workJoined_244 (lv_at hl 1 rfl) ?_
                        refine lw_imulN (a := 3) (b := mE E (m2 35 0 (4 * a + k))) hx hb dX5_workJoined_246 ?_
                        refine lv_iload hx hb dX5_workJoined_247 (lv_at hl 0 rfl) ?_
                        refine lw_iaddN (a := 3 * (mE E (m2 35 0 (4 * a + k)))) (b := k5) hx hb dX5_workJoined_249 ?_
                        refine w_ialdN (i := 3 * (mE E (m2 35 0 (4 * a + k))) + k5) X hW 41 0 Nat.zero_lt_one rfl (by omega) dX5_workJoined_250 ?_
                        refine lv_iand hx hb dX5_workJoined_251 ?_
                        refine w_iastN (i := 3 * a + k5) X hW hS 41 0 Nat.zero_lt_one rfl (by omega) rfl dX5_workJoined_252 (fun H locs hW hS => ?_)
                        obtain ⟨I19, eI19⟩ : ∃ z, z = k_up m3 41 0 (upd (m3 41 0) (3 * a + k5) ((m3 41 0 (3 * a + k5)) &&& (m3 41 0 (3 * (mE E (m2 35 0 (4 * a + k))) + k5)))) := ⟨_, rfl⟩
                        rw [← eI19] at hW
                        have hs19 : m_S mA mK E I19 := by rw [eI19]; exact hs_221.up 41 _ _ (by decide)
                        refine lv_iinc (v := nI (k5 + 1)) (lv' := [(5, .int (nI (k5 + 1))), (4, .int (nI (mE E (m2 35 0 (4 * a + k))))), (3, .int (nI k)), (0, .ref (ad 13 0)), (1, .int (nI a))]) hx hb dX5_workJoined_253 hl (k := 0) rfl (nI_1 k5) (by decide) rfl (fun ls hl => ?_)
                        refine lv_goto (tgt := 221) hx hb dX5_workJoined_256 (by decide) ?_
                        exact ih221 (k5 + 1) I19 (by omega) (by subst eI19; first | exact hz221 | (rw [← hz221]; simp [kLoop, mCan1, c_2, c_10, c_15, hz4]; done) | (rw [← hz221]; simp [kLoop, mCan1, c_2, c_10, c_15, hz4]; rfl)) hs19 _ _ hW hS ls (lv_sub hl [0, 1, 2, 3, 4] rfl)
                    exact loop221 3 0 I16 (by omega) rfl hs16 _ _ hW hS ls (lv_sub hl [0, 1, 2, 3, 4] rfl)
                  · skip
                    refine lv_aload_n hx hb dX5_workJoined_202 rfl (lv_at hl 2 rfl) ?_
                    refine w_get X hW 13 0 Nat.zero_lt_one rfl rfl inG5 23 (by decide) g521 rfl dX5_workJoined_203 ?_
                    refine lv_iload hx hb dX5_workJoined_206 (lv_at hl 0 rfl) ?_
                    refine w_zaldN (i := mE E (m2 35 0 (4 * a + k))) X hW 43 0 Nat.zero_lt_one rfl (by omega) dX5_workJoined_208 ?_
                    refine lv_if_eq (tgt := 216) hx hb dX5_workJoined_209 (by decide) (fun c_20 => ?_) (fun c_20 => ?_)
                    · skip
                      refine lv_iconst (v := 0) hx hb dX5_workJoined_216 (by decide) ?_
                      refine w_zastN (i := a) X hW hS 43 0 Nat.zero_lt_one rfl rfl (by omega) rfl dX5_workJoined_217 (fun H locs hW hS => ?_)
                      obtain ⟨I21, eI21⟩ : ∃ z, z = k_up I14 43 0 (upd (I14 43 0) a 0) := ⟨_, rfl⟩
                      rw [← eI21] at hW
                      have hs21 : m_S mA mK E I21 := by rw [eI21]; exact hs14.up 43 _ _ (by decide)
                      refine lv_iconst (v := 0) hx hb dX5_workJoined_218 (by decide) ?_
                      refine lv_istore (lv' := [(5, .int 0), (4, .int (nI (mE E (m2 35 0 (4 * a + k))))), (3, .int (nI k)), (0, .ref (ad 13 0)), (1, .int (nI a))]) hx hb dX5_workJoined_219 hl (by decide) rfl (fun ls hl => ?_)
                      have loop221 : ∀ (d5 k5 : Nat) (m3 : k_I), k5 + d5 = 3 → (kLoop (fun z I => mw 41 (3 * a + z) (I 41 0 (3 * a + z) &&& I 41 0 (3 * (mE E (m2 35 0 (4 * a + k))) + z)) I) d5 k5 m3 = mWJ1s a (mE E (m2 35 0 (4 * a + k))) I21) → (m_S mA mK E m3) → ∀ (H : Heap) (locs : List Loc), Wd G ad nA nK m3 J13 H → va_S (k_A G) s.heap H locs → ∀ ls : Array Slot, lv_has ls 6 [(5, .int (nI k5)), (4, .int (nI (mE E (m2 35 0 (4 * a + k))))), (3, .int (nI k)), (0, .ref (ad 13 0)), (1, .int (nI a))] → W p l e { frames := 1, cells := 0, slots := 0, locals := 22 } s m ([.ref (ad 13 0), .int (nI a)] : List Value).toArray below meth c H locs 0 0 (MQ below (k_Q G (none) (Wd G ad nA nK ((mWJ E a (I, J)).1) ((mWJ E a (I, J)).2))) ([.ref (ad 13 0), .int (nI a)] : List Value).toArray s 0 0 (k_A G)) (F0 m 221 ls []) := by
                        intro d5
                        induction d5 with
                        | zero =>
                          intro k5 m3 hi221 hz221 hs_221 H locs hW hS ls hl
                          have eIm3 : m3 = mWJ1s a (mE E (m2 35 0 (4 * a + k))) I21 := hz221
                          refine lv_iload hx hb dX5_workJoined_221 (lv_at hl 0 rfl) ?_
                          refine lv_iconst (v := 3) hx hb dX5_workJoined_223 (by decide) ?_
                          refine lv_icmp_ge (tgt := 259) hx hb dX5_workJoined_224 (by decide) (fun _ => ?_) (fun c_22 => absurd (nI_le (a := 3) (b := k5) (by omega) (by omega)) c_22)
                          refine lv_iinc (v := nI (k + 1)) (lv' := [(3, .int (nI (k + 1))), (5, .int (nI k5)), (4, .int (nI (mE E (m2 35 0 (4 * a + k))))), (0, .ref (ad 13 0)), (1, .int (nI a))]) hx hb dX5_workJoined_259 hl (k := 2) rfl (nI_1 k) (by decide) rfl (fun ls hl => ?_)
                          refine lv_goto (tgt := 122) hx hb dX5_workJoined_262 (by decide) ?_
                          exact ih122 (k + 1) m3 J13 (by omega) (by rw [← hz122]; simp only [mWJL, c_10, if_false]; rw [show m3 = mWJ1 a (mE E (m2 35 0 (4 * a + k))) m2 from (by rw [eIm3]; unfold mWJ1; rw [show I21 = mWJ1d a (mE E (m2 35 0 (4 * a + k))) (mWJ1t a (mE E (m2 35 0 (4 * a + k))) m2) from (by rw [eI21, show mWJ1t a (mE E (m2 35 0 (4 * a + k))) m2 = I14 from eI14.symm]; unfold mWJ1d; simp [c_15, c_20, mw])]), eJ13]; rfl) hs_221 _ _ hW hS ls (lv_sub hl [0, 3, 4] rfl)
                        | succ d5 ih =>
                          intro k5 m3 hi221 hz221 hs_221 H locs hW hS ls hl
                          have hlt221 : k5 < 3 := by omega
                          have ih221 := ih
                          refine lv_iload hx hb dX5_workJoined_221 (lv_at hl 0 rfl) ?_
                          refine lv_iconst (v := 3) hx hb dX5_workJoined_223 (by decide) ?_
                          refine lv_icmp_ge (tgt := 259) hx hb dX5_workJoined_224 (by decide) (fun c_23 => absurd c_23 (nI_ge (a := k5) (b := 3) (by omega) (by omega))) (fun _ => ?_)
                          refine lv_aload_n hx hb dX5_workJoined_227 rfl (lv_at hl 3 rfl) ?_
                          refine w_get X hW 13 0 Nat.zero_lt_one rfl rfl inG5 21 (by decide) g519 rfl dX5_workJoined_228 ?_
                          refine lv_iconst (v := 3) hx hb dX5_workJoined_231 (by decide) ?_
                          refine lv_iload_n hx hb dX5_workJoined_232 rfl (lv_at hl 4 rfl) ?_
                          refine lw_imulN (a := 3) (b := a) hx hb dX5_workJoined_233 ?_
                          refine lv_iload hx hb dX5_workJoined_234 (lv_at hl 0 rfl) ?_
                          refine lw_iaddN (a := 3 * a) (b := k5) hx hb dX5_workJoined_236 ?_
                          refine lv_dup2_11 hx hb dX5_workJoined_237 rfl rfl ?_
                          refine w_ialdN (i := 3 * a + k5) X hW 41 0 Nat.zero_lt_one rfl (by omega) dX5_workJoined_238 ?_
                          refine lv_aload_n hx hb dX5_workJoined_239 rfl (lv_at hl 3 rfl) ?_
                          refine w_get X hW 13 0 Nat.zero_lt_one rfl rfl inG5 21 (by decide) g519 rfl dX5_workJoined_240 ?_
                          refine lv_iconst (v := 3) hx hb dX5_workJoined_243 (by decide) ?_
                          refine lv_iload hx hb dX5_workJoined_244 (lv_at hl 1 rfl) ?_
                          refine lw_imulN (a := 3) (b := mE E (m2 35 0 (4 * a + k))) hx hb dX5_workJoined_246 ?_
                          refine lv_iload hx hb dX5_workJoined_247 (lv_at hl 0 rfl) ?_
                          refine lw_iaddN (a := 3 * (mE E (m2 35 0 (4 * a + k)))) (b := k5) hx hb dX5_workJoined_249 ?_
                          refine w_ialdN (i := 3 * (mE E (m2 35 0 (4 * a + k))) + k5) X hW 41 0 Nat.zero_lt_one rfl (by omega) dX5_workJoined_250 ?_
                          refine lv_iand hx hb dX5_workJoined_251 ?_
                          refine w_iastN (i := 3 * a + k5) X hW hS 41 0 Nat.zero_lt_one rfl (by omega) rfl dX5_workJoined_252 (fun H locs hW hS => ?_)
                          obtain ⟨I24, eI24⟩ : ∃ z, z = k_up m3 41 0 (upd (m3 41 0) (3 * a + k5) ((m3 41 0 (3 * a + k5)) &&& (m3 41 0 (3 * (mE E (m2 35 0 (4 * a + k))) + k5)))) := ⟨_, rfl⟩
                          rw [← eI24] at hW
                          have hs24 : m_S mA mK E I24 := by rw [eI24]; exact hs_221.up 41 _ _ (by decide)
                          refine lv_iinc (v := nI (k5 + 1)) (lv' := [(5, .int (nI (k5 + 1))), (4, .int (nI (mE E (m2 35 0 (4 * a + k))))), (3, .int (nI k)), (0, .ref (ad 13 0)), (1, .int (nI a))]) hx hb dX5_workJoined_253 hl (k := 0) rfl (nI_1 k5) (by decide) rfl (fun ls hl => ?_)
                          refine lv_goto (tgt := 221) hx hb dX5_workJoined_256 (by decide) ?_
                          exact ih221 (k5 + 1) I24 (by omega) (by subst eI24; first | exact hz221 | (rw [← hz221]; simp [kLoop, mCan1, c_2, c_10, c_15, c_20, hz4]; done) | (rw [← hz221]; simp [kLoop, mCan1, c_2, c_10, c_15, c_20, hz4]; rfl)) hs24 _ _ hW hS ls (lv_sub hl [0, 1, 2, 3, 4] rfl)
                      exact loop221 3 0 I21 (by omega) rfl hs21 _ _ hW hS ls (lv_sub hl [0, 1, 2, 3, 4] rfl)
                    · skip
                      refine lv_iconst (v := 1) hx hb dX5_workJoined_212 (by decide) ?_
                      refine lv_goto (tgt := 217) hx hb dX5_workJoined_213 (by decide) ?_
                      refine w_zastN (i := a) X hW hS 43 0 Nat.zero_lt_one rfl rfl (by omega) rfl dX5_workJoined_217 (fun H locs hW hS => ?_)
                      obtain ⟨I25, eI25⟩ : ∃ z, z = k_up I14 43 0 (upd (I14 43 0) a 1) := ⟨_, rfl⟩
                      rw [← eI25] at hW
                      have hs25 : m_S mA mK E I25 := by rw [eI25]; exact hs14.up 43 _ _ (by decide)
                      refine lv_iconst (v := 0) hx hb dX5_workJoined_218 (by decide) ?_
                      refine lv_istore (lv' := [(5, .int 0), (4, .int (nI (mE E (m2 35 0 (4 * a + k))))), (3, .int (nI k)), (0, .ref (ad 13 0)), (1, .int (nI a))]) hx hb dX5_workJoined_219 hl (by decide) rfl (fun ls hl => ?_)
                      have loop221 : ∀ (d5 k5 : Nat) (m3 : k_I), k5 + d5 = 3 → (kLoop (fun z I => mw 41 (3 * a + z) (I 41 0 (3 * a + z) &&& I 41 0 (3 * (mE E (m2 35 0 (4 * a + k))) + z)) I) d5 k5 m3 = mWJ1s a (mE E (m2 35 0 (4 * a + k))) I25) → (m_S mA mK E m3) → ∀ (H : Heap) (locs : List Loc), Wd G ad nA nK m3 J13 H → va_S (k_A G) s.heap H locs → ∀ ls : Array Slot, lv_has ls 6 [(5, .int (nI k5)), (4, .int (nI (mE E (m2 35 0 (4 * a + k))))), (3, .int (nI k)), (0, .ref (ad 13 0)), (1, .int (nI a))] → W p l e { frames := 1, cells := 0, slots := 0, locals := 22 } s m ([.ref (ad 13 0), .int (nI a)] : List Value).toArray below meth c H locs 0 0 (MQ below (k_Q G (none) (Wd G ad nA nK ((mWJ E a (I, J)).1) ((mWJ E a (I, J)).2))) ([.ref (ad 13 0), .int (nI a)] : List Value).toArray s 0 0 (k_A G)) (F0 m 221 ls []) := by
                        intro d5
                        induction d5 with
                        | zero =>
                          intro k5 m3 hi221 hz221 hs_221 H locs hW hS ls hl
                          have eIm3 : m3 = mWJ1s a (mE E (m2 35 0 (4 * a + k))) I25 := hz221
                          refine lv_iload hx hb dX5_workJoined_221 (lv_at hl 0 rfl) ?_
                          refine lv_iconst (v := 3) hx hb dX5_workJoined_223 (by decide) ?_
                          refine lv_icmp_ge (tgt := 259) hx hb dX5_workJoined_224 (by decide) (fun _ => ?_) (fun c_26 => absurd (nI_le (a := 3) (b := k5) (by omega) (by omega)) c_26)
                          refine lv_iinc (v := nI (k + 1)) (lv' := [(3, .int (nI (k + 1))), (5, .int (nI k5)), (4, .int (nI (mE E (m2 35 0 (4 * a + k))))), (0, .ref (ad 13 0)), (1, .int (nI a))]) hx hb dX5_workJoined_259 hl (k := 2) rfl (nI_1 k) (by decide) rfl (fun ls hl => ?_)
                          refine lv_goto (tgt := 122) hx hb dX5_workJoined_262 (by decide) ?_
                          exact ih122 (k + 1) m3 J13 (by omega) (by rw [← hz122]; simp only [mWJL, c_10, if_false]; rw [show m3 = mWJ1 a (mE E (m2 35 0 (4 * a + k))) m2 from (by rw [eIm3]; unfold mWJ1; rw [show I25 = mWJ1d a (mE E (m2 35 0 (4 * a + k))) (mWJ1t a (mE E (m2 35 0 (4 * a + k))) m2) from (by rw [eI25, show mWJ1t a (mE E (m2 35 0 (4 * a + k))) m2 = I14 from eI14.symm]; unfold mWJ1d; simp [c_15, c_20, mw])]), eJ13]; rfl) hs_221 _ _ hW hS ls (lv_sub hl [0, 3, 4] rfl)
                        | succ d5 ih =>
                          intro k5 m3 hi221 hz221 hs_221 H locs hW hS ls hl
                          have hlt221 : k5 < 3 := by omega
                          have ih221 := ih
                          refine lv_iload hx hb dX5_workJoined_221 (lv_at hl 0 rfl) ?_
                          refine lv_iconst (v := 3) hx hb dX5_workJoined_223 (by decide) ?_
                          refine lv_icmp_ge (tgt := 259) hx hb dX5_workJoined_224 (by decide) (fun c_27 => absurd c_27 (nI_ge (a := k5) (b := 3) (by omega) (by omega))) (fun _ => ?_)
                          refine lv_aload_n hx hb dX5_workJoined_227 rfl (lv_at hl 3 rfl) ?_
                          refine w_get X hW 13 0 Nat.zero_lt_one rfl rfl inG5 21 (by decide) g519 rfl dX5_workJoined_228 ?_
                          refine lv_iconst (v := 3) hx hb dX5_workJoined_231 (by decide) ?_
                          refine lv_iload_n hx hb dX5_workJoined_232 rfl (lv_at hl 4 rfl) ?_
                          refine lw_imulN (a := 3) (b := a) hx hb dX5_workJoined_233 ?_
                          refine lv_iload hx hb dX5_workJoined_234 (lv_at hl 0 rfl) ?_
                          refine lw_iaddN (a := 3 * a) (b := k5) hx hb dX5_workJoined_236 ?_
                          refine lv_dup2_11 hx hb dX5_workJoined_237 rfl rfl ?_
                          refine w_ialdN (i := 3 * a + k5) X hW 41 0 Nat.zero_lt_one rfl (by omega) dX5_workJoined_238 ?_
                          refine lv_aload_n hx hb dX5_workJoined_239 rfl (lv_at hl 3 rfl) ?_
                          refine w_get X hW 13 0 Nat.zero_lt_one rfl rfl inG5 21 (by decide) g519 rfl dX5_workJoined_240 ?_
                          refine lv_iconst (v := 3) hx hb dX5_workJoined_243 (by decide) ?_
                          refine lv_iload hx hb dX5_workJoined_244 (lv_at hl 1 rfl) ?_
                          refine lw_imulN (a := 3) (b := mE E (m2 35 0 (4 * a + k))) hx hb dX5_workJoined_246 ?_
                          refine lv_iload hx hb dX5_workJoined_247 (lv_at hl 0 rfl) ?_
                          refine lw_iaddN (a := 3 * (mE E (m2 35 0 (4 * a + k)))) (b := k5) hx hb dX5_workJoined_249 ?_
                          refine w_ialdN (i := 3 * (mE E (m2 35 0 (4 * a + k))) + k5) X hW 41 0 Nat.zero_lt_one rfl (by omega) dX5_workJoined_250 ?_
                          refine lv_iand hx hb dX5_workJoined_251 ?_
                          refine w_iastN (i := 3 * a + k5) X hW hS 41 0 Nat.zero_lt_one rfl (by omega) rfl dX5_workJoined_252 (fun H locs hW hS => ?_)
                          obtain ⟨I28, eI28⟩ : ∃ z, z = k_up m3 41 0 (upd (m3 41 0) (3 * a + k5) ((m3 41 0 (3 * a + k5)) &&& (m3 41 0 (3 * (mE E (m2 35 0 (4 * a + k))) + k5)))) := ⟨_, rfl⟩
                          rw [← eI28] at hW
                          have hs28 : m_S mA mK E I28 := by rw [eI28]; exact hs_221.up 41 _ _ (by decide)
                          refine lv_iinc (v := nI (k5 + 1)) (lv' := [(5, .int (nI (k5 + 1))), (4, .int (nI (mE E (m2 35 0 (4 * a + k))))), (3, .int (nI k)), (0, .ref (ad 13 0)), (1, .int (nI a))]) hx hb dX5_workJoined_253 hl (k := 0) rfl (nI_1 k5) (by decide) rfl (fun ls hl => ?_)
                          refine lv_goto (tgt := 221) hx hb dX5_workJoined_256 (by decide) ?_
                          exact ih221 (k5 + 1) I28 (by omega) (by subst eI28; first | exact hz221 | (rw [← hz221]; simp [kLoop, mCan1, c_2, c_10, c_15, c_20, hz4]; done) | (rw [← hz221]; simp [kLoop, mCan1, c_2, c_10, c_15, c_20, hz4]; rfl)) hs28 _ _ hW hS ls (lv_sub hl [0, 1, 2, 3, 4] rfl)
                      exact loop221 3 0 I25 (by omega) rfl hs25 _ _ hW hS ls (lv_sub hl [0, 1, 2, 3, 4] rfl)
            exact loop122 4 0 m1 J4 (by omega) (by rw [eIm1, eJ4]; rfl) hs_95 _ _ hW hS ls (lv_sub hl [0, 1, 2] rfl)
          | succ d ih =>
            intro k m1 hi95 hz95 hs_95 H locs hW hS ls hl
            have hlt95 : k < 3 := by omega
            have ih95 := ih
            refine lv_iload_n hx hb dX5_workJoined_95 rfl (lv_at hl 0 rfl) ?_
            refine lv_iconst (v := 3) hx hb dX5_workJoined_96 (by decide) ?_
            refine lv_icmp_ge (tgt := 120) hx hb dX5_workJoined_97 (by decide) (fun c_29 => absurd c_29 (nI_ge (a := k) (b := 3) (by omega) (by omega))) (fun _ => ?_)
            refine lv_aload_n hx hb dX5_workJoined_100 rfl (lv_at hl 1 rfl) ?_
            refine w_get X hW 13 0 Nat.zero_lt_one rfl rfl inG5 21 (by decide) g519 rfl dX5_workJoined_101 ?_
            refine lv_iconst (v := 3) hx hb dX5_workJoined_104 (by decide) ?_
            refine lv_iload_n hx hb dX5_workJoined_105 rfl (lv_at hl 2 rfl) ?_
            refine lw_imulN (a := 3) (b := a) hx hb dX5_workJoined_106 ?_
            refine lv_iload_n hx hb dX5_workJoined_107 rfl (lv_at hl 0 rfl) ?_
            refine lw_iaddN (a := 3 * a) (b := k) hx hb dX5_workJoined_108 ?_
            refine lv_iload_n hx hb dX5_workJoined_109 rfl (lv_at hl 0 rfl) ?_
            refine w_cS1 X hS (m_X5_allOf l G (Wd G ad nA nK m1 J4) (nI k) ) rfl rfl g646 g4 g644 g645 hd_X5_allOf ⟨Nat.le_of_ble_eq_true rfl, Nat.le_of_ble_eq_true rfl⟩ hW hl.1 rfl (Nat.le_of_ble_eq_true rfl) dX5_workJoined_110 (Nat.zero_le _) (Nat.zero_le _) (fun H locs hW hS => ?_)
            refine w_iastN (i := 3 * a + k) X hW hS 41 0 Nat.zero_lt_one rfl (by omega) rfl dX5_workJoined_113 (fun H locs hW hS => ?_)
            obtain ⟨I30, eI30⟩ : ∃ z, z = k_up m1 41 0 (upd (m1 41 0) (3 * a + k) (mAllOf (nI k))) := ⟨_, rfl⟩
            rw [← eI30] at hW
            have hs30 : m_S mA mK E I30 := by rw [eI30]; exact hs_95.up 41 _ _ (by decide)
            refine lv_iinc (v := nI (k + 1)) (lv' := [(3, .int (nI (k + 1))), (0, .ref (ad 13 0)), (1, .int (nI a))]) hx hb dX5_workJoined_114 hl (k := 0) rfl (nI_1 k) (by decide) rfl (fun ls hl => ?_)
            refine lv_goto (tgt := 95) hx hb dX5_workJoined_117 (by decide) ?_
            exact ih95 (k + 1) I30 (by omega) (by subst eI30; first | exact hz95 | (rw [← hz95]; simp [kLoop, mCan1, c_2, hz4]; done) | (rw [← hz95]; simp [kLoop, mCan1, c_2, hz4]; rfl)) hs30 _ _ hW hS ls (lv_sub hl [0, 1, 2] rfl)
        exact loop95 3 0 I6 (by omega) (by rw [eI6, eI5, eI3]; rfl) hs6 _ _ hW hS ls (lv_sub hl [0, 2, 3] rfl)
      · skip
        exact w_vret X hr hlk hS (hW.to (by unfold mWJ; rw [if_neg (by rw [← hz4, c_2]; decide)]) (by unfold mWJ; rw [if_neg (by rw [← hz4, c_2]; decide)])) dX5_workJoined_64
    | succ d ih =>
      intro j b hi4 hz4  H locs hW hS ls hl
      have hlt4 : j < 4 := by omega
      have ih4 := ih
      refine lv_iload_n hx hb dX5_workJoined_4 rfl (lv_at hl 0 rfl) ?_
      refine lv_iconst (v := 4) hx hb dX5_workJoined_5 (by decide) ?_
      refine lv_icmp_ge (tgt := 60) hx hb dX5_workJoined_6 (by decide) (fun c_31 => absurd c_31 (nI_ge (a := j) (b := 4) (by omega) (by omega))) (fun _ => ?_)
      refine lv_iload_n hx hb dX5_workJoined_9 rfl (lv_at hl 1 rfl) ?_
      refine lb_if_eq (tgt := 52) hx hb dX5_workJoined_10 (by decide) (fun c_32 => ?_) (fun c_32 => ?_)
      · skip
        refine lv_iconst (v := 0) hx hb dX5_workJoined_52 (by decide) ?_
        refine lv_istore_n (lv' := [(2, .int 0), (3, .int (nI j)), (0, .ref (ad 13 0)), (1, .int (nI a))]) hx hb dX5_workJoined_53 rfl hl (by decide) rfl (fun ls hl => ?_)
        refine lv_iinc (v := nI (j + 1)) (lv' := [(3, .int (nI (j + 1))), (2, .int 0), (0, .ref (ad 13 0)), (1, .int (nI a))]) hx hb dX5_workJoined_54 hl (k := 1) rfl (nI_1 j) (by decide) rfl (fun ls hl => ?_)
        refine lv_goto (tgt := 4) hx hb dX5_workJoined_57 (by decide) ?_
        exact ih4 (j + 1) false (by omega) (by first | exact hz4 | (rw [← hz4]; simp [kLoop, mCan1, c_32]; done) | (simp [← hz4, kLoop, mCan1, c_32]; done) | (rw [← hz4]; simp only [kLoop, mCan1, c_32, eq_self, if_true, if_false, Bool.false_eq_true, decide_true, decide_false, Bool.not_true, Bool.not_false, Bool.false_or, Bool.true_or, Bool.and_true, Bool.true_and, Bool.false_and, Bool.and_false, Bool.or_true, Bool.or_false]; done)) _ _ hW hS ls (lv_sub hl [0, 1, 2, 3] rfl)
      · skip
        refine lv_aload_n hx hb dX5_workJoined_13 rfl (lv_at hl 2 rfl) ?_
        refine w_get X hW 13 0 Nat.zero_lt_one rfl rfl inG5 15 (by decide) g513 rfl dX5_workJoined_14 ?_
        refine lv_iconst (v := 4) hx hb dX5_workJoined_17 (by decide) ?_
        refine lv_iload_n hx hb dX5_workJoined_18 rfl (lv_at hl 3 rfl) ?_
        refine lw_imulN (a := 4) (b := a) hx hb dX5_workJoined_19 ?_
        refine lv_iload_n hx hb dX5_workJoined_20 rfl (lv_at hl 0 rfl) ?_
        refine lw_iaddN (a := 4 * a) (b := j) hx hb dX5_workJoined_21 ?_
        refine w_ialdN (i := 4 * a + j) X hW 35 0 Nat.zero_lt_one rfl (by omega) dX5_workJoined_22 ?_
        refine lv_if_lt (tgt := 48) hx hb dX5_workJoined_23 (by decide) (fun c_33 => ?_) (fun c_33 => ?_)
        · skip
          refine lv_iconst (v := 1) hx hb dX5_workJoined_48 (by decide) ?_
          refine lv_goto (tgt := 53) hx hb dX5_workJoined_49 (by decide) ?_
          refine lv_istore_n (lv' := [(2, .int 1), (3, .int (nI j)), (0, .ref (ad 13 0)), (1, .int (nI a))]) hx hb dX5_workJoined_53 rfl hl (by decide) rfl (fun ls hl => ?_)
          refine lv_iinc (v := nI (j + 1)) (lv' := [(3, .int (nI (j + 1))), (2, .int 1), (0, .ref (ad 13 0)), (1, .int (nI a))]) hx hb dX5_workJoined_54 hl (k := 1) rfl (nI_1 j) (by decide) rfl (fun ls hl => ?_)
          refine lv_goto (tgt := 4) hx hb dX5_workJoined_57 (by decide) ?_
          exact ih4 (j + 1) true (by omega) (by first | exact hz4 | (rw [← hz4]; simp [kLoop, mCan1, c_32, c_33]; done) | (simp [← hz4, kLoop, mCan1, c_32, c_33]; done) | (rw [← hz4]; simp only [kLoop, mCan1, c_32, c_33, eq_self, if_true, if_false, Bool.false_eq_true, decide_true, decide_false, Bool.not_true, Bool.not_false, Bool.false_or, Bool.true_or, Bool.and_true, Bool.true_and, Bool.false_and, Bool.and_false, Bool.or_true, Bool.or_false]; done)) _ _ hW hS ls (lv_sub hl [0, 1, 2, 3] rfl)
        · skip
          have hp34 : ∃ p, p < mA ∧ I 35 0 (4 * a + j) = nI p := hs.part (by omega) c_33
          refine lv_aload_n hx hb dX5_workJoined_26 rfl (lv_at hl 2 rfl) ?_
          refine w_get X hW 13 0 Nat.zero_lt_one rfl rfl inG5 19 (by decide) g517 rfl dX5_workJoined_27 ?_
          refine lv_aload_n hx hb dX5_workJoined_30 rfl (lv_at hl 2 rfl) ?_
          refine lv_aload_n hx hb dX5_workJoined_31 rfl (lv_at hl 2 rfl) ?_
          refine w_get X hW 13 0 Nat.zero_lt_one rfl rfl inG5 15 (by decide) g513 rfl dX5_workJoined_32 ?_
          refine lv_iconst (v := 4) hx hb dX5_workJoined_35 (by decide) ?_
          refine lv_iload_n hx hb dX5_workJoined_36 rfl (lv_at hl 3 rfl) ?_
          refine lw_imulN (a := 4) (b := a) hx hb dX5_workJoined_37 ?_
          refine lv_iload_n hx hb dX5_workJoined_38 rfl (lv_at hl 0 rfl) ?_
          refine lw_iaddN (a := 4 * a) (b := j) hx hb dX5_workJoined_39 ?_
          refine w_ialdN (i := 4 * a + j) X hW 35 0 Nat.zero_lt_one rfl (by omega) dX5_workJoined_40 ?_
          refine w_cV1 X hS (m_X5_endOf_x l G ad nA nK mA mK E I J (I 35 0 (4 * a + j)) hs hp34) rfl rfl g643 g4 g640 g642 p35 hd_X5_endOf ⟨Nat.le_of_ble_eq_true rfl, Nat.le_of_ble_eq_true rfl⟩ (k_rec X hW 13 0 Nat.zero_lt_one rfl rfl) hW hl.1 rfl (Nat.le_of_ble_eq_true rfl) dX5_workJoined_41 (Nat.zero_le _) (Nat.zero_le _) (fun H locs hW hS => ?_)
          have hE35 : mE E (I 35 0 (4 * a + j)) < mA := hs.eb hp34
          refine w_zaldN (i := mE E (I 35 0 (4 * a + j))) X hW 39 0 Nat.zero_lt_one rfl (by omega) dX5_workJoined_44 ?_
          refine lv_if_eq (tgt := 52) hx hb dX5_workJoined_45 (by decide) (fun c_36 => ?_) (fun c_36 => ?_)
          · skip
            refine lv_iconst (v := 0) hx hb dX5_workJoined_52 (by decide) ?_
            refine lv_istore_n (lv' := [(2, .int 0), (3, .int (nI j)), (0, .ref (ad 13 0)), (1, .int (nI a))]) hx hb dX5_workJoined_53 rfl hl (by decide) rfl (fun ls hl => ?_)
            refine lv_iinc (v := nI (j + 1)) (lv' := [(3, .int (nI (j + 1))), (2, .int 0), (0, .ref (ad 13 0)), (1, .int (nI a))]) hx hb dX5_workJoined_54 hl (k := 1) rfl (nI_1 j) (by decide) rfl (fun ls hl => ?_)
            refine lv_goto (tgt := 4) hx hb dX5_workJoined_57 (by decide) ?_
            exact ih4 (j + 1) false (by omega) (by first | exact hz4 | (rw [← hz4]; simp [kLoop, mCan1, c_32, c_33, c_36]; done) | (simp [← hz4, kLoop, mCan1, c_32, c_33, c_36]; done) | (rw [← hz4]; simp only [kLoop, mCan1, c_32, c_33, c_36, eq_self, if_true, if_false, Bool.false_eq_true, decide_true, decide_false, Bool.not_true, Bool.not_false, Bool.false_or, Bool.true_or, Bool.and_true, Bool.true_and, Bool.false_and, Bool.and_false, Bool.or_true, Bool.or_false]; done)) _ _ hW hS ls (lv_sub hl [0, 1, 2, 3] rfl)
          · skip
            refine lv_iconst (v := 1) hx hb dX5_workJoined_48 (by decide) ?_
            refine lv_goto (tgt := 53) hx hb dX5_workJoined_49 (by decide) ?_
            refine lv_istore_n (lv' := [(2, .int 1), (3, .int (nI j)), (0, .ref (ad 13 0)), (1, .int (nI a))]) hx hb dX5_workJoined_53 rfl hl (by decide) rfl (fun ls hl => ?_)
            refine lv_iinc (v := nI (j + 1)) (lv' := [(3, .int (nI (j + 1))), (2, .int 1), (0, .ref (ad 13 0)), (1, .int (nI a))]) hx hb dX5_workJoined_54 hl (k := 1) rfl (nI_1 j) (by decide) rfl (fun ls hl => ?_)
            refine lv_goto (tgt := 4) hx hb dX5_workJoined_57 (by decide) ?_
            exact ih4 (j + 1) true (by omega) (by first | exact hz4 | (rw [← hz4]; simp [kLoop, mCan1, c_32, c_33, c_36]; done) | (simp [← hz4, kLoop, mCan1, c_32, c_33, c_36]; done) | (rw [← hz4]; simp only [kLoop, mCan1, c_32, c_33, c_36, eq_self, if_true, if_false, Bool.false_eq_true, decide_true, decide_false, Bool.not_true, Bool.not_false, Bool.false_or, Bool.true_or, Bool.and_true, Bool.true_and, Bool.false_and, Bool.and_false, Bool.or_true, Bool.or_false]; done)) _ _ hW hS ls (lv_sub hl [0, 1, 2, 3] rfl)
  exact loop4 4 0 true (by omega) rfl _ _ hW hS ls (lv_sub hl [0, 1, 2, 3] rfl)
set_option maxHeartbeats 4000000 in
set_option maxRecDepth 100000 in
theorem m_X5_work (l : Launch) (G : k_G) (ad : Nat → Nat → Nat) (nA nK : Nat) (mA mK : Nat) (E : Nat → Nat) (I : k_I) (J : k_J) (hs : m_S mA mK E I) : k_Met l yX5_work cX5_work 3 none { frames := 2, cells := 0, slots := 0, locals := 47 } G [.ref (ad 13 0)] (Wd G ad nA nK I J) (none) (Wd G ad nA nK ((mWork E mA (I, J)).1) ((mWork E mA (I, J)).2)) 0 0 := by
  refine k_body (by decide) (Nat.le_of_ble_eq_true rfl) ?_
  intro p e s m below meth c ls X hr hlk hnm hW hS hl
  have hx := X.1.1
  have hb := X.1.2.1
  have hG := X.1.2.2.2.2
  have hA24 := hs.2.2.1
  have hK30 := hs.2.2.2.1
  have hl : lv_has ls 3 [(0, .ref (ad 13 0))] := hl
  refine lv_iconst (v := 0) hx hb dX5_work_0 (by decide) ?_
  refine lv_istore_n (lv' := [(1, .int 0), (0, .ref (ad 13 0))]) hx hb dX5_work_1 rfl hl (by decide) rfl (fun ls hl => ?_)
  have loop2 : ∀ (d j : Nat) (m1 : k_I) (q1 : k_J), j + d = mA → (kLoop mWk1 d j (m1, q1) = mWkA mA (I, J)) → (m_S mA mK E m1) → ∀ (H : Heap) (locs : List Loc), Wd G ad nA nK m1 q1 H → va_S (k_A G) s.heap H locs → ∀ ls : Array Slot, lv_has ls 3 [(1, .int (nI j)), (0, .ref (ad 13 0))] → W p l e { frames := 2, cells := 0, slots := 0, locals := 47 } s m ([.ref (ad 13 0)] : List Value).toArray below meth c H locs 0 0 (MQ below (k_Q G (none) (Wd G ad nA nK ((mWork E mA (I, J)).1) ((mWork E mA (I, J)).2))) ([.ref (ad 13 0)] : List Value).toArray s 0 0 (k_A G)) (F0 m 2 ls []) := by
    intro d
    induction d with
    | zero =>
      intro j m1 q1 hi2 hz2 hs_2 H locs hW hS ls hl
      have eIm1 : m1 = (mWkA mA (I, J)).1 := congrArg Prod.fst hz2
      have eJq1 : q1 = (mWkA mA (I, J)).2 := congrArg Prod.snd hz2
      refine lv_iload_n hx hb dX5_work_2 rfl (lv_at hl 0 rfl) ?_
      refine lv_aload_n hx hb dX5_work_3 rfl (lv_at hl 1 rfl) ?_
      refine w_get (v := .int (nI mA)) X hW 13 0 Nat.zero_lt_one rfl rfl inG5 6 (by decide) g504 (congrArg (fun z => some (Value.int z)) hs_2.1) dX5_work_4 ?_
      refine lv_icmp_ge (tgt := 37) hx hb dX5_work_7 (by decide) (fun _ => ?_) (fun c_1 => absurd (nI_le (a := mA) (b := j) (by omega) (by omega)) c_1)
      refine lv_iconst (v := 0) hx hb dX5_work_37 (by decide) ?_
      refine lv_istore_n (lv' := [(1, .int 0), (0, .ref (ad 13 0))]) hx hb dX5_work_38 rfl hl (by decide) rfl (fun ls hl => ?_)
      have loop39 : ∀ (d r : Nat) (m2 : k_I) (q2 : k_J), r + d = mA → (kLoop (fun _ s => mWkR E mA s) d r (m2, q2) = mWkB E mA (m1, q1)) → (m_S mA mK E m2) → ∀ (H : Heap) (locs : List Loc), Wd G ad nA nK m2 q2 H → va_S (k_A G) s.heap H locs → ∀ ls : Array Slot, lv_has ls 3 [(1, .int (nI r)), (0, .ref (ad 13 0))] → W p l e { frames := 2, cells := 0, slots := 0, locals := 47 } s m ([.ref (ad 13 0)] : List Value).toArray below meth c H locs 0 0 (MQ below (k_Q G (none) (Wd G ad nA nK ((mWork E mA (I, J)).1) ((mWork E mA (I, J)).2))) ([.ref (ad 13 0)] : List Value).toArray s 0 0 (k_A G)) (F0 m 39 ls []) := by
        intro d
        induction d with
        | zero =>
          intro r m2 q2 hi39 hz39 hs_39 H locs hW hS ls hl
          have eIm2 : m2 = (mWkB E mA (m1, q1)).1 := congrArg Prod.fst hz39
          have eJq2 : q2 = (mWkB E mA (m1, q1)).2 := congrArg Prod.snd hz39
          refine lv_iload_n hx hb dX5_work_39 rfl (lv_at hl 0 rfl) ?_
          refine lv_aload_n hx hb dX5_work_40 rfl (lv_at hl 1 rfl) ?_
          refine w_get (v := .int (nI mA)) X hW 13 0 Nat.zero_lt_one rfl rfl inG5 6 (by decide) g504 (congrArg (fun z => some (Value.int z)) hs_39.1) dX5_work_41 ?_
          refine lv_icmp_ge (tgt := 83) hx hb dX5_work_44 (by decide) (fun _ => ?_) (fun c_2 => absurd (nI_le (a := mA) (b := r) (by omega) (by omega)) c_2)
          exact w_vret X hr hlk hS (hW.to (by first | rfl | (subst eJq2 eIm2 eJq1 eIm1; simp []; done) | (subst eJq2 eIm2 eJq1 eIm1; rfl) | (subst eJq2 eIm2 eJq1 eIm1; simp []; done) | (subst eJq2 eIm2 eJq1 eIm1; simp []; rfl) | (simp [eIm1, eJq1, eIm2, eJq2]; done)) (by first | rfl | (subst eJq2 eIm2 eJq1 eIm1; simp []; done) | (subst eJq2 eIm2 eJq1 eIm1; rfl) | (subst eJq2 eIm2 eJq1 eIm1; simp []; done) | (subst eJq2 eIm2 eJq1 eIm1; simp []; rfl) | (simp [eIm1, eJq1, eIm2, eJq2]; done))) dX5_work_83
        | succ d ih =>
          intro r m2 q2 hi39 hz39 hs_39 H locs hW hS ls hl
          have hlt39 : r < mA := by omega
          have ih39 := ih
          refine lv_iload_n hx hb dX5_work_39 rfl (lv_at hl 0 rfl) ?_
          refine lv_aload_n hx hb dX5_work_40 rfl (lv_at hl 1 rfl) ?_
          refine w_get (v := .int (nI mA)) X hW 13 0 Nat.zero_lt_one rfl rfl inG5 6 (by decide) g504 (congrArg (fun z => some (Value.int z)) hs_39.1) dX5_work_41 ?_
          refine lv_icmp_ge (tgt := 83) hx hb dX5_work_44 (by decide) (fun c_3 => absurd c_3 (nI_ge (a := r) (b := mA) (by omega) (by omega))) (fun _ => ?_)
          refine lv_iconst (v := 0) hx hb dX5_work_47 (by decide) ?_
          refine lv_istore_n (lv' := [(2, .int 0), (1, .int (nI r)), (0, .ref (ad 13 0))]) hx hb dX5_work_48 rfl hl (by decide) rfl (fun ls hl => ?_)
          have loop49 : ∀ (d2 j : Nat) (m3 : k_I) (q3 : k_J), j + d2 = mA → (kLoop (mWk2 E) d2 j (m3, q3) = mWkR E mA (m2, q2)) → (m_S mA mK E m3) → ∀ (H : Heap) (locs : List Loc), Wd G ad nA nK m3 q3 H → va_S (k_A G) s.heap H locs → ∀ ls : Array Slot, lv_has ls 3 [(2, .int (nI j)), (1, .int (nI r)), (0, .ref (ad 13 0))] → W p l e { frames := 2, cells := 0, slots := 0, locals := 47 } s m ([.ref (ad 13 0)] : List Value).toArray below meth c H locs 0 0 (MQ below (k_Q G (none) (Wd G ad nA nK ((mWork E mA (I, J)).1) ((mWork E mA (I, J)).2))) ([.ref (ad 13 0)] : List Value).toArray s 0 0 (k_A G)) (F0 m 49 ls []) := by
            intro d2
            induction d2 with
            | zero =>
              intro j m3 q3 hi49 hz49 hs_49 H locs hW hS ls hl
              have eIm3 : m3 = (mWkR E mA (m2, q2)).1 := congrArg Prod.fst hz49
              have eJq3 : q3 = (mWkR E mA (m2, q2)).2 := congrArg Prod.snd hz49
              refine lv_iload_n hx hb dX5_work_49 rfl (lv_at hl 0 rfl) ?_
              refine lv_aload_n hx hb dX5_work_50 rfl (lv_at hl 2 rfl) ?_
              refine w_get (v := .int (nI mA)) X hW 13 0 Nat.zero_lt_one rfl rfl inG5 6 (by decide) g504 (congrArg (fun z => some (Value.int z)) hs_49.1) dX5_work_51 ?_
              refine lv_icmp_ge (tgt := 77) hx hb dX5_work_54 (by decide) (fun _ => ?_) (fun c_4 => absurd (nI_le (a := mA) (b := j) (by omega) (by omega)) c_4)
              refine lv_iinc (v := nI (r + 1)) (lv' := [(1, .int (nI (r + 1))), (2, .int (nI j)), (0, .ref (ad 13 0))]) hx hb dX5_work_77 hl (k := 1) rfl (nI_1 r) (by decide) rfl (fun ls hl => ?_)
              refine lv_goto (tgt := 39) hx hb dX5_work_80 (by decide) ?_
              exact ih39 (r + 1) m3 q3 (by omega) (by subst eJq3 eIm3; first | exact hz39 | (rw [← hz39]; simp [kLoop, mWk1, mWk2, mw]; done) | (rw [← hz39]; simp [kLoop, mWk1, mWk2, mw]; rfl)) hs_49 _ _ hW hS ls (lv_sub hl [0, 2] rfl)
            | succ d2 ih =>
              intro j m3 q3 hi49 hz49 hs_49 H locs hW hS ls hl
              have hlt49 : j < mA := by omega
              have ih49 := ih
              refine lv_iload_n hx hb dX5_work_49 rfl (lv_at hl 0 rfl) ?_
              refine lv_aload_n hx hb dX5_work_50 rfl (lv_at hl 2 rfl) ?_
              refine w_get (v := .int (nI mA)) X hW 13 0 Nat.zero_lt_one rfl rfl inG5 6 (by decide) g504 (congrArg (fun z => some (Value.int z)) hs_49.1) dX5_work_51 ?_
              refine lv_icmp_ge (tgt := 77) hx hb dX5_work_54 (by decide) (fun c_5 => absurd c_5 (nI_ge (a := j) (b := mA) (by omega) (by omega))) (fun _ => ?_)
              refine lv_aload_n hx hb dX5_work_57 rfl (lv_at hl 2 rfl) ?_
              refine w_get X hW 13 0 Nat.zero_lt_one rfl rfl inG5 19 (by decide) g517 rfl dX5_work_58 ?_
              refine lv_iload_n hx hb dX5_work_61 rfl (lv_at hl 0 rfl) ?_
              refine w_zaldN (i := j) X hW 39 0 Nat.zero_lt_one rfl (by omega) dX5_work_62 ?_
              refine lv_if_ne (tgt := 71) hx hb dX5_work_63 (by decide) (fun c_6 => ?_) (fun c_6 => ?_)
              · skip
                refine lv_iinc (v := nI (j + 1)) (lv' := [(2, .int (nI (j + 1))), (1, .int (nI r)), (0, .ref (ad 13 0))]) hx hb dX5_work_71 hl (k := 0) rfl (nI_1 j) (by decide) rfl (fun ls hl => ?_)
                refine lv_goto (tgt := 49) hx hb dX5_work_74 (by decide) ?_
                exact ih49 (j + 1) m3 q3 (by omega) (by first | exact hz49 | (rw [← hz49]; simp [kLoop, mWk1, mWk2, mw, c_6, eIm1, eJq1]; done) | (simp [← hz49, kLoop, mWk1, mWk2, mw, c_6, eIm1, eJq1]; done) | (rw [← hz49]; simp only [kLoop, mWk1, mWk2, mw, c_6, eIm1, eJq1, eq_self, if_true, if_false, Bool.false_eq_true, decide_true, decide_false, Bool.not_true, Bool.not_false, Bool.false_or, Bool.true_or, Bool.and_true, Bool.true_and, Bool.false_and, Bool.and_false, Bool.or_true, Bool.or_false]; done) | (simp only [eIm1, eJq1]; exact hz49)) hs_49 _ _ hW hS ls (lv_sub hl [0, 1, 2] rfl)
              · skip
                refine lv_aload_n hx hb dX5_work_66 rfl (lv_at hl 2 rfl) ?_
                refine lv_iload_n hx hb dX5_work_67 rfl (lv_at hl 0 rfl) ?_
                refine w_cVv X hS (m_X5_workJoined l G ad nA nK mA mK E m3 q3 j hs_49 (by first | assumption | omega)) rfl rfl g639 g4 g636 g638 p34 hd_X5_workJoined ⟨Nat.le_of_ble_eq_true rfl, Nat.le_of_ble_eq_true rfl⟩ (k_rec X hW 13 0 Nat.zero_lt_one rfl rfl) hW hl.1 rfl (Nat.le_of_ble_eq_true rfl) dX5_work_68 (Nat.zero_le _) (Nat.zero_le _) (fun H locs hW hS => ?_)
                obtain ⟨I7, eI7⟩ : ∃ z, z = (mWJ E j (m3, q3)).1 := ⟨_, rfl⟩
                rw [← eI7] at hW
                have hs7 : m_S mA mK E I7 := by rw [eI7]; exact (mWJ_S (s := (m3, q3)) hs_49)
                obtain ⟨J7, eJ7⟩ : ∃ z, z = (mWJ E j (m3, q3)).2 := ⟨_, rfl⟩
                rw [← eJ7] at hW
                refine lv_iinc (v := nI (j + 1)) (lv' := [(2, .int (nI (j + 1))), (1, .int (nI r)), (0, .ref (ad 13 0))]) hx hb dX5_work_71 hl (k := 0) rfl (nI_1 j) (by decide) rfl (fun ls hl => ?_)
                refine lv_goto (tgt := 49) hx hb dX5_work_74 (by decide) ?_
                exact ih49 (j + 1) I7 J7 (by omega) (by subst eJ7 eI7; first | exact hz49 | (rw [← hz49]; simp [kLoop, mWk1, mWk2, mw, c_6]; done) | (rw [← hz49]; simp [kLoop, mWk1, mWk2, mw, c_6]; rfl)) hs7 _ _ hW hS ls (lv_sub hl [0, 1, 2] rfl)
          exact loop49 mA 0 m2 q2 (by omega) rfl hs_39 _ _ hW hS ls (lv_sub hl [0, 1, 2] rfl)
      exact loop39 mA 0 m1 q1 (by omega) rfl hs_2 _ _ hW hS ls (lv_sub hl [0, 1] rfl)
    | succ d ih =>
      intro j m1 q1 hi2 hz2 hs_2 H locs hW hS ls hl
      have hlt2 : j < mA := by omega
      have ih2 := ih
      refine lv_iload_n hx hb dX5_work_2 rfl (lv_at hl 0 rfl) ?_
      refine lv_aload_n hx hb dX5_work_3 rfl (lv_at hl 1 rfl) ?_
      refine w_get (v := .int (nI mA)) X hW 13 0 Nat.zero_lt_one rfl rfl inG5 6 (by decide) g504 (congrArg (fun z => some (Value.int z)) hs_2.1) dX5_work_4 ?_
      refine lv_icmp_ge (tgt := 37) hx hb dX5_work_7 (by decide) (fun c_8 => absurd c_8 (nI_ge (a := j) (b := mA) (by omega) (by omega))) (fun _ => ?_)
      refine lv_aload_n hx hb dX5_work_10 rfl (lv_at hl 1 rfl) ?_
      refine w_get X hW 13 0 Nat.zero_lt_one rfl rfl inG5 19 (by decide) g517 rfl dX5_work_11 ?_
      refine lv_iload_n hx hb dX5_work_14 rfl (lv_at hl 0 rfl) ?_
      refine lv_iconst (v := 0) hx hb dX5_work_15 (by decide) ?_
      refine w_zastN (i := j) X hW hS 39 0 Nat.zero_lt_one rfl rfl (by omega) rfl dX5_work_16 (fun H locs hW hS => ?_)
      obtain ⟨I9, eI9⟩ : ∃ z, z = k_up m1 39 0 (upd (m1 39 0) j 0) := ⟨_, rfl⟩
      rw [← eI9] at hW
      have hs9 : m_S mA mK E I9 := by rw [eI9]; exact hs_2.up 39 _ _ (by decide)
      refine lv_aload_n hx hb dX5_work_17 rfl (lv_at hl 1 rfl) ?_
      refine w_get X hW 13 0 Nat.zero_lt_one rfl rfl inG5 7 (by decide) g505 rfl dX5_work_18 ?_
      refine lv_iload_n hx hb dX5_work_21 rfl (lv_at hl 0 rfl) ?_
      refine w_ialdN (i := j) X hW 27 0 Nat.zero_lt_one rfl (by omega) dX5_work_22 ?_
      refine lv_if_ne (tgt := 31) hx hb dX5_work_23 (by decide) (fun c_10 => ?_) (fun c_10 => ?_)
      · skip
        refine lv_iinc (v := nI (j + 1)) (lv' := [(1, .int (nI (j + 1))), (0, .ref (ad 13 0))]) hx hb dX5_work_31 hl (k := 0) rfl (nI_1 j) (by decide) rfl (fun ls hl => ?_)
        refine lv_goto (tgt := 2) hx hb dX5_work_34 (by decide) ?_
        exact ih2 (j + 1) I9 q1 (by omega) (by subst eI9; first | exact hz2 | (rw [← hz2]; simp [kLoop, mWk1, mWk2, mw, c_10]; done) | (rw [← hz2]; simp [kLoop, mWk1, mWk2, mw, c_10]; rfl)) hs9 _ _ hW hS ls (lv_sub hl [0, 1] rfl)
      · skip
        refine lv_aload_n hx hb dX5_work_26 rfl (lv_at hl 1 rfl) ?_
        refine lv_iload_n hx hb dX5_work_27 rfl (lv_at hl 0 rfl) ?_
        refine w_cVv X hS (m_X5_workPlain l G ad nA nK mA mK E I9 q1 j hs9 (by first | assumption | omega)) rfl rfl g635 g4 g632 g634 p33 hd_X5_workPlain ⟨Nat.le_of_ble_eq_true rfl, Nat.le_of_ble_eq_true rfl⟩ (k_rec X hW 13 0 Nat.zero_lt_one rfl rfl) hW hl.1 rfl (Nat.le_of_ble_eq_true rfl) dX5_work_28 (Nat.zero_le _) (Nat.zero_le _) (fun H locs hW hS => ?_)
        obtain ⟨I11, eI11⟩ : ∃ z, z = mWP j I9 := ⟨_, rfl⟩
        rw [← eI11] at hW
        have hs11 : m_S mA mK E I11 := by rw [eI11]; exact (mWP_S hs9)
        obtain ⟨J11, eJ11⟩ : ∃ z, z = mWPJ j q1 := ⟨_, rfl⟩
        rw [← eJ11] at hW
        refine lv_iinc (v := nI (j + 1)) (lv' := [(1, .int (nI (j + 1))), (0, .ref (ad 13 0))]) hx hb dX5_work_31 hl (k := 0) rfl (nI_1 j) (by decide) rfl (fun ls hl => ?_)
        refine lv_goto (tgt := 2) hx hb dX5_work_34 (by decide) ?_
        exact ih2 (j + 1) I11 J11 (by omega) (by subst eJ11 eI11 eI9; first | exact hz2 | (rw [← hz2]; simp [kLoop, mWk1, mWk2, mw, c_10]; done) | (rw [← hz2]; simp [kLoop, mWk1, mWk2, mw, c_10]; rfl)) hs11 _ _ hW hS ls (lv_sub hl [0, 1] rfl)
  exact loop2 mA 0 I J (by omega) rfl hs _ _ hW hS ls (lv_sub hl [0, 1] rfl)
set_option maxHeartbeats 4000000 in
set_option maxRecDepth 100000 in
theorem m_X5_hasPart (l : Launch) (G : k_G) (ad : Nat → Nat → Nat) (nA nK : Nat) (mA mK : Nat) (E : Nat → Nat) (I : k_I) (J : k_J) (f : Nat) (a : Nat) (hs : m_S mA mK E I) (hf : f < mA) (ha : a < mA) : k_Met l yX5_hasPart cX5_hasPart 6 (some FieldType.boolean) { frames := 1, cells := 0, slots := 0, locals := 22 } G [.ref (ad 13 0), .int (nI f), .int (nI a)] (Wd G ad nA nK I J) (some (.int (k_b (!decide (mHP E mA f I 39 0 a = 0))))) (Wd G ad nA nK (mHP E mA f I) J) 0 0 := by
  refine k_body (by decide) (Nat.le_of_ble_eq_true rfl) ?_
  intro p e s m below meth c ls X hr hlk hnm hW hS hl
  have hx := X.1.1
  have hb := X.1.2.1
  have hG := X.1.2.2.2.2
  have hA24 := hs.2.2.1
  have hK30 := hs.2.2.2.1
  have hl : lv_has ls 6 [(0, .ref (ad 13 0)), (1, .int (nI f)), (2, .int (nI a))] := hl
  refine lv_iconst (v := 0) hx hb dX5_hasPart_0 (by decide) ?_
  refine lv_istore_n (lv' := [(3, .int 0), (0, .ref (ad 13 0)), (1, .int (nI f)), (2, .int (nI a))]) hx hb dX5_hasPart_1 rfl hl (by decide) rfl (fun ls hl => ?_)
  have loop2 : ∀ (d k : Nat) (m1 : k_I), k + d = mA → (kLoop (fun k I => mw 39 k (if nI k = nI f then 1 else 0) I) d k m1 = mHP0 mA f I) → (m_S mA mK E m1) → ∀ (H : Heap) (locs : List Loc), Wd G ad nA nK m1 J H → va_S (k_A G) s.heap H locs → ∀ ls : Array Slot, lv_has ls 6 [(3, .int (nI k)), (0, .ref (ad 13 0)), (1, .int (nI f)), (2, .int (nI a))] → W p l e { frames := 1, cells := 0, slots := 0, locals := 22 } s m ([.ref (ad 13 0), .int (nI f), .int (nI a)] : List Value).toArray below meth c H locs 0 0 (MQ below (k_Q G (some (.int (k_b (!decide (mHP E mA f I 39 0 a = 0))))) (Wd G ad nA nK (mHP E mA f I) J)) ([.ref (ad 13 0), .int (nI f), .int (nI a)] : List Value).toArray s 0 0 (k_A G)) (F0 m 2 ls []) := by
    intro d
    induction d with
    | zero =>
      intro k m1 hi2 hz2 hs_2 H locs hW hS ls hl
      have eIm1 : m1 = mHP0 mA f I := hz2
      refine lv_iload_n hx hb dX5_hasPart_2 rfl (lv_at hl 0 rfl) ?_
      refine lv_aload_n hx hb dX5_hasPart_3 rfl (lv_at hl 1 rfl) ?_
      refine w_get (v := .int (nI mA)) X hW 13 0 Nat.zero_lt_one rfl rfl inG5 6 (by decide) g504 (congrArg (fun z => some (Value.int z)) hs_2.1) dX5_hasPart_4 ?_
      refine lv_icmp_ge (tgt := 32) hx hb dX5_hasPart_7 (by decide) (fun _ => ?_) (fun c_1 => absurd (nI_le (a := mA) (b := k) (by omega) (by omega)) c_1)
      refine lv_iconst (v := 0) hx hb dX5_hasPart_32 (by decide) ?_
      refine lv_istore_n (lv' := [(3, .int 0), (0, .ref (ad 13 0)), (1, .int (nI f)), (2, .int (nI a))]) hx hb dX5_hasPart_33 rfl hl (by decide) rfl (fun ls hl => ?_)
      have loop34 : ∀ (d r : Nat) (m2 : k_I), r + d = mA → (kLoop (fun _ I => mHPR E mA I) d r m2 = kLoop (fun _ I => mHPR E mA I) mA 0 m1) → (m_S mA mK E m2) → ∀ (H : Heap) (locs : List Loc), Wd G ad nA nK m2 J H → va_S (k_A G) s.heap H locs → ∀ ls : Array Slot, lv_has ls 6 [(3, .int (nI r)), (0, .ref (ad 13 0)), (1, .int (nI f)), (2, .int (nI a))] → W p l e { frames := 1, cells := 0, slots := 0, locals := 22 } s m ([.ref (ad 13 0), .int (nI f), .int (nI a)] : List Value).toArray below meth c H locs 0 0 (MQ below (k_Q G (some (.int (k_b (!decide (mHP E mA f I 39 0 a = 0))))) (Wd G ad nA nK (mHP E mA f I) J)) ([.ref (ad 13 0), .int (nI f), .int (nI a)] : List Value).toArray s 0 0 (k_A G)) (F0 m 34 ls []) := by
        intro d
        induction d with
        | zero =>
          intro r m2 hi34 hz34 hs_34 H locs hW hS ls hl
          have eIm2 : m2 = kLoop (fun _ I => mHPR E mA I) mA 0 m1 := hz34
          refine lv_iload_n hx hb dX5_hasPart_34 rfl (lv_at hl 0 rfl) ?_
          refine lv_aload_n hx hb dX5_hasPart_35 rfl (lv_at hl 1 rfl) ?_
          refine w_get (v := .int (nI mA)) X hW 13 0 Nat.zero_lt_one rfl rfl inG5 6 (by decide) g504 (congrArg (fun z => some (Value.int z)) hs_34.1) dX5_hasPart_36 ?_
          refine lv_icmp_ge (tgt := 139) hx hb dX5_hasPart_39 (by decide) (fun _ => ?_) (fun c_2 => absurd (nI_le (a := mA) (b := r) (by omega) (by omega)) c_2)
          refine lv_aload_n hx hb dX5_hasPart_139 rfl (lv_at hl 1 rfl) ?_
          refine w_get X hW 13 0 Nat.zero_lt_one rfl rfl inG5 19 (by decide) g517 rfl dX5_hasPart_140 ?_
          refine lv_iload_n hx hb dX5_hasPart_143 rfl (lv_at hl 3 rfl) ?_
          refine w_zaldN (i := a) X hW 39 0 Nat.zero_lt_one rfl (by omega) dX5_hasPart_144 ?_
          exact w_zret X hr hlk hS (by rw [eIm2, eIm1]; exact m01_b (mHP_01 a ha)) (k_b_n _) (hW.to (by first | rfl | (subst eIm2 eIm1; simp []; done) | (subst eIm2 eIm1; rfl) | (subst eIm2 eIm1; simp []; done) | (subst eIm2 eIm1; simp []; rfl) | (simp [eIm1, eIm2]; done)) rfl) dX5_hasPart_145
        | succ d ih =>
          intro r m2 hi34 hz34 hs_34 H locs hW hS ls hl
          have hlt34 : r < mA := by omega
          have ih34 := ih
          refine lv_iload_n hx hb dX5_hasPart_34 rfl (lv_at hl 0 rfl) ?_
          refine lv_aload_n hx hb dX5_hasPart_35 rfl (lv_at hl 1 rfl) ?_
          refine w_get (v := .int (nI mA)) X hW 13 0 Nat.zero_lt_one rfl rfl inG5 6 (by decide) g504 (congrArg (fun z => some (Value.int z)) hs_34.1) dX5_hasPart_36 ?_
          refine lv_icmp_ge (tgt := 139) hx hb dX5_hasPart_39 (by decide) (fun c_3 => absurd c_3 (nI_ge (a := r) (b := mA) (by omega) (by omega))) (fun _ => ?_)
          refine lv_iconst (v := 0) hx hb dX5_hasPart_42 (by decide) ?_
          refine lv_istore (lv' := [(4, .int 0), (3, .int (nI r)), (0, .ref (ad 13 0)), (1, .int (nI f)), (2, .int (nI a))]) hx hb dX5_hasPart_43 hl (by decide) rfl (fun ls hl => ?_)
          have loop45 : ∀ (d3 j : Nat) (m3 : k_I), j + d3 = mA → (kLoop (fun j I => mHPL E j 4 0 I) d3 j m3 = mHPR E mA m2) → (m_S mA mK E m3) → ∀ (H : Heap) (locs : List Loc), Wd G ad nA nK m3 J H → va_S (k_A G) s.heap H locs → ∀ ls : Array Slot, lv_has ls 6 [(4, .int (nI j)), (3, .int (nI r)), (0, .ref (ad 13 0)), (1, .int (nI f)), (2, .int (nI a))] → W p l e { frames := 1, cells := 0, slots := 0, locals := 22 } s m ([.ref (ad 13 0), .int (nI f), .int (nI a)] : List Value).toArray below meth c H locs 0 0 (MQ below (k_Q G (some (.int (k_b (!decide (mHP E mA f I 39 0 a = 0))))) (Wd G ad nA nK (mHP E mA f I) J)) ([.ref (ad 13 0), .int (nI f), .int (nI a)] : List Value).toArray s 0 0 (k_A G)) (F0 m 45 ls []) := by
            intro d3
            induction d3 with
            | zero =>
              intro j m3 hi45 hz45 hs_45 H locs hW hS ls hl
              have eIm3 : m3 = mHPR E mA m2 := hz45
              refine lv_iload hx hb dX5_hasPart_45 (lv_at hl 0 rfl) ?_
              refine lv_aload_n hx hb dX5_hasPart_47 rfl (lv_at hl 2 rfl) ?_
              refine w_get (v := .int (nI mA)) X hW 13 0 Nat.zero_lt_one rfl rfl inG5 6 (by decide) g504 (congrArg (fun z => some (Value.int z)) hs_45.1) dX5_hasPart_48 ?_
              refine lv_icmp_ge (tgt := 133) hx hb dX5_hasPart_51 (by decide) (fun _ => ?_) (fun c_4 => absurd (nI_le (a := mA) (b := j) (by omega) (by omega)) c_4)
              refine lv_iinc (v := nI (r + 1)) (lv' := [(3, .int (nI (r + 1))), (4, .int (nI j)), (0, .ref (ad 13 0)), (1, .int (nI f)), (2, .int (nI a))]) hx hb dX5_hasPart_133 hl (k := 1) rfl (nI_1 r) (by decide) rfl (fun ls hl => ?_)
              refine lv_goto (tgt := 34) hx hb dX5_hasPart_136 (by decide) ?_
              exact ih34 (r + 1) m3 (by omega) (by subst eIm3; first | exact hz34 | (rw [← hz34]; simp [kLoop, mHPL, mw]; done) | (rw [← hz34]; simp [kLoop, mHPL, mw]; rfl)) hs_45 _ _ hW hS ls (lv_sub hl [0, 2, 3, 4] rfl)
            | succ d3 ih =>
              intro j m3 hi45 hz45 hs_45 H locs hW hS ls hl
              have hlt45 : j < mA := by omega
              have ih45 := ih
              refine lv_iload hx hb dX5_hasPart_45 (lv_at hl 0 rfl) ?_
              refine lv_aload_n hx hb dX5_hasPart_47 rfl (lv_at hl 2 rfl) ?_
              refine w_get (v := .int (nI mA)) X hW 13 0 Nat.zero_lt_one rfl rfl inG5 6 (by decide) g504 (congrArg (fun z => some (Value.int z)) hs_45.1) dX5_hasPart_48 ?_
              refine lv_icmp_ge (tgt := 133) hx hb dX5_hasPart_51 (by decide) (fun c_5 => absurd c_5 (nI_ge (a := j) (b := mA) (by omega) (by omega))) (fun _ => ?_)
              refine lv_iconst (v := 0) hx hb dX5_hasPart_54 (by decide) ?_
              refine lv_istore (lv' := [(5, .int 0), (4, .int (nI j)), (3, .int (nI r)), (0, .ref (ad 13 0)), (1, .int (nI f)), (2, .int (nI a))]) hx hb dX5_hasPart_55 hl (by decide) rfl (fun ls hl => ?_)
              have loop57 : ∀ (d4 k : Nat) (m4 : k_I), k + d4 = 4 → (mHPL E j d4 k m4 = mHPL E j 4 0 m3) → (m_S mA mK E m4) → ∀ (H : Heap) (locs : List Loc), Wd G ad nA nK m4 J H → va_S (k_A G) s.heap H locs → ∀ ls : Array Slot, lv_has ls 6 [(5, .int (nI k)), (4, .int (nI j)), (3, .int (nI r)), (0, .ref (ad 13 0)), (1, .int (nI f)), (2, .int (nI a))] → W p l e { frames := 1, cells := 0, slots := 0, locals := 22 } s m ([.ref (ad 13 0), .int (nI f), .int (nI a)] : List Value).toArray below meth c H locs 0 0 (MQ below (k_Q G (some (.int (k_b (!decide (mHP E mA f I 39 0 a = 0))))) (Wd G ad nA nK (mHP E mA f I) J)) ([.ref (ad 13 0), .int (nI f), .int (nI a)] : List Value).toArray s 0 0 (k_A G)) (F0 m 57 ls []) := by
                intro d4
                induction d4 with
                | zero =>
                  intro k m4 hi57 hz57 hs_57 H locs hW hS ls hl
                  refine lv_iload hx hb dX5_hasPart_57 (lv_at hl 0 rfl) ?_
                  refine lv_iconst (v := 4) hx hb dX5_hasPart_59 (by decide) ?_
                  refine lv_icmp_ge (tgt := 127) hx hb dX5_hasPart_60 (by decide) (fun _ => ?_) (fun c_6 => absurd (nI_le (a := 4) (b := k) (by omega) (by omega)) c_6)
                  refine lv_iinc (v := nI (j + 1)) (lv' := [(4, .int (nI (j + 1))), (5, .int (nI k)), (3, .int (nI r)), (0, .ref (ad 13 0)), (1, .int (nI f)), (2, .int (nI a))]) hx hb dX5_hasPart_127 hl (k := 1) rfl (nI_1 j) (by decide) rfl (fun ls hl => ?_)
                  refine lv_goto (tgt := 45) hx hb dX5_hasPart_130 (by decide) ?_
                  exact ih45 (j + 1) m4 (by omega) (by rw [← hz45]; show kLoop _ _ _ m4 = kLoop _ _ _ (mHPL E j 4 0 m3); rw [← hz57]; first | rfl | simp [mHPL, ]) hs_57 _ _ hW hS ls (lv_sub hl [0, 2, 3, 4, 5] rfl)
                | succ d4 ih =>
                  intro k m4 hi57 hz57 hs_57 H locs hW hS ls hl
                  have hlt57 : k < 4 := by omega
                  have ih57 := ih
                  refine lv_iload hx hb dX5_hasPart_57 (lv_at hl 0 rfl) ?_
                  refine lv_iconst (v := 4) hx hb dX5_hasPart_59 (by decide) ?_
                  refine lv_icmp_ge (tgt := 127) hx hb dX5_hasPart_60 (by decide) (fun c_7 => absurd c_7 (nI_ge (a := k) (b := 4) (by omega) (by omega))) (fun _ => ?_)
                  refine lv_aload_n hx hb dX5_hasPart_63 rfl (lv_at hl 3 rfl) ?_
                  refine w_get X hW 13 0 Nat.zero_lt_one rfl rfl inG5 19 (by decide) g517 rfl dX5_hasPart_64 ?_
                  refine lv_iload hx hb dX5_hasPart_67 (lv_at hl 1 rfl) ?_
                  refine w_zaldN (i := j) X hW 39 0 Nat.zero_lt_one rfl (by omega) dX5_hasPart_69 ?_
                  refine lv_if_eq (tgt := 127) hx hb dX5_hasPart_70 (by decide) (fun c_8 => ?_) (fun c_8 => ?_)
                  · skip
                    refine lv_iinc (v := nI (j + 1)) (lv' := [(4, .int (nI (j + 1))), (5, .int (nI k)), (3, .int (nI r)), (0, .ref (ad 13 0)), (1, .int (nI f)), (2, .int (nI a))]) hx hb dX5_hasPart_127 hl (k := 1) rfl (nI_1 j) (by decide) rfl (fun ls hl => ?_)
                    refine lv_goto (tgt := 45) hx hb dX5_hasPart_130 (by decide) ?_
                    exact ih45 (j + 1) m4 (by omega) (by rw [← hz45]; show kLoop _ _ _ m4 = kLoop _ _ _ (mHPL E j 4 0 m3); rw [← hz57]; first | rfl | simp [mHPL, c_8]) hs_57 _ _ hW hS ls (lv_sub hl [0, 2, 3, 4, 5] rfl)
                  · skip
                    refine lv_aload_n hx hb dX5_hasPart_73 rfl (lv_at hl 3 rfl) ?_
                    refine w_get X hW 13 0 Nat.zero_lt_one rfl rfl inG5 7 (by decide) g505 rfl dX5_hasPart_74 ?_
                    refine lv_iload hx hb dX5_hasPart_77 (lv_at hl 1 rfl) ?_
                    refine w_ialdN (i := j) X hW 27 0 Nat.zero_lt_one rfl (by omega) dX5_hasPart_79 ?_
                    refine lv_iconst (v := 1) hx hb dX5_hasPart_80 (by decide) ?_
                    refine lv_icmp_ne (tgt := 127) hx hb dX5_hasPart_81 (by decide) (fun c_9 => ?_) (fun c_9 => ?_)
                    · skip
                      refine lv_iinc (v := nI (j + 1)) (lv' := [(4, .int (nI (j + 1))), (5, .int (nI k)), (3, .int (nI r)), (0, .ref (ad 13 0)), (1, .int (nI f)), (2, .int (nI a))]) hx hb dX5_hasPart_127 hl (k := 1) rfl (nI_1 j) (by decide) rfl (fun ls hl => ?_)
                      refine lv_goto (tgt := 45) hx hb dX5_hasPart_130 (by decide) ?_
                      exact ih45 (j + 1) m4 (by omega) (by rw [← hz45]; show kLoop _ _ _ m4 = kLoop _ _ _ (mHPL E j 4 0 m3); rw [← hz57]; first | rfl | simp [mHPL, c_8, c_9]) hs_57 _ _ hW hS ls (lv_sub hl [0, 2, 3, 4, 5] rfl)
                    · skip
                      refine lv_aload_n hx hb dX5_hasPart_84 rfl (lv_at hl 3 rfl) ?_
                      refine w_get X hW 13 0 Nat.zero_lt_one rfl rfl inG5 15 (by decide) g513 rfl dX5_hasPart_85 ?_
                      refine lv_iconst (v := 4) hx hb dX5_hasPart_88 (by decide) ?_
                      refine lv_iload hx hb dX5_hasPart_89 (lv_at hl 1 rfl) ?_
                      refine lw_imulN (a := 4) (b := j) hx hb dX5_hasPart_91 ?_
                      refine lv_iload hx hb dX5_hasPart_92 (lv_at hl 0 rfl) ?_
                      refine lw_iaddN (a := 4 * j) (b := k) hx hb dX5_hasPart_94 ?_
                      refine w_ialdN (i := 4 * j + k) X hW 35 0 Nat.zero_lt_one rfl (by omega) dX5_hasPart_95 ?_
                      refine lv_if_lt (tgt := 121) hx hb dX5_hasPart_96 (by decide) (fun c_10 => ?_) (fun c_10 => ?_)
                      · skip
                        refine lv_iinc (v := nI (k + 1)) (lv' := [(5, .int (nI (k + 1))), (4, .int (nI j)), (3, .int (nI r)), (0, .ref (ad 13 0)), (1, .int (nI f)), (2, .int (nI a))]) hx hb dX5_hasPart_121 hl (k := 0) rfl (nI_1 k) (by decide) rfl (fun ls hl => ?_)
                        refine lv_goto (tgt := 57) hx hb dX5_hasPart_124 (by decide) ?_
                        exact ih57 (k + 1) m4 (by omega) (by first | exact hz57 | (rw [← hz57]; simp [kLoop, mHPL, mw, c_8, c_9, c_10, eIm1]; done) | (simp [← hz57, kLoop, mHPL, mw, c_8, c_9, c_10, eIm1]; done) | (rw [← hz57]; simp only [kLoop, mHPL, mw, c_8, c_9, c_10, eIm1, eq_self, if_true, if_false, Bool.false_eq_true, decide_true, decide_false, Bool.not_true, Bool.not_false, Bool.false_or, Bool.true_or, Bool.and_true, Bool.true_and, Bool.false_and, Bool.and_false, Bool.or_true, Bool.or_false]; done) | (simp only [eIm1]; exact hz57)) hs_57 _ _ hW hS ls (lv_sub hl [0, 1, 2, 3, 4, 5] rfl)
                      · skip
                        have hp11 : ∃ p, p < mA ∧ m4 35 0 (4 * j + k) = nI p := hs_57.part (by omega) c_10
                        refine lv_aload_n hx hb dX5_hasPart_99 rfl (lv_at hl 3 rfl) ?_
                        refine w_get X hW 13 0 Nat.zero_lt_one rfl rfl inG5 19 (by decide) g517 rfl dX5_hasPart_100 ?_
                        refine lv_aload_n hx hb dX5_hasPart_103 rfl (lv_at hl 3 rfl) ?_
                        refine lv_aload_n hx hb dX5_hasPart_104 rfl (lv_at hl 3 rfl) ?_
                        refine w_get X hW 13 0 Nat.zero_lt_one rfl rfl inG5 15 (by decide) g513 rfl dX5_hasPart_105 ?_
                        refine lv_iconst (v := 4) hx hb dX5_hasPart_108 (by decide) ?_
                        refine lv_iload hx hb dX5_hasPart_109 (lv_at hl 1 rfl) ?_
                        refine lw_imulN (a := 4) (b := j) hx hb dX5_hasPart_111 ?_
                        refine lv_iload hx hb dX5_hasPart_112 (lv_at hl 0 rfl) ?_
                        refine lw_iaddN (a := 4 * j) (b := k) hx hb dX5_hasPart_114 ?_
                        refine w_ialdN (i := 4 * j + k) X hW 35 0 Nat.zero_lt_one rfl (by omega) dX5_hasPart_115 ?_
                        refine w_cV1 X hS (m_X5_endOf_x l G ad nA nK mA mK E m4 J (m4 35 0 (4 * j + k)) hs_57 hp11) rfl rfl g643 g4 g640 g642 p35 hd_X5_endOf ⟨Nat.le_of_ble_eq_true rfl, Nat.le_of_ble_eq_true rfl⟩ (k_rec X hW 13 0 Nat.zero_lt_one rfl rfl) hW hl.1 rfl (Nat.le_of_ble_eq_true rfl) dX5_hasPart_116 (Nat.zero_le _) (Nat.zero_le _) (fun H locs hW hS => ?_)
                        have hE12 : mE E (m4 35 0 (4 * j + k)) < mA := hs_57.eb hp11
                        refine lv_iconst (v := 1) hx hb dX5_hasPart_119 (by decide) ?_
                        refine w_zastN (i := mE E (m4 35 0 (4 * j + k))) X hW hS 39 0 Nat.zero_lt_one rfl rfl (by omega) rfl dX5_hasPart_120 (fun H locs hW hS => ?_)
                        obtain ⟨I13, eI13⟩ : ∃ z, z = k_up m4 39 0 (upd (m4 39 0) (mE E (m4 35 0 (4 * j + k))) 1) := ⟨_, rfl⟩
                        rw [← eI13] at hW
                        have hs13 : m_S mA mK E I13 := by rw [eI13]; exact hs_57.up 39 _ _ (by decide)
                        refine lv_iinc (v := nI (k + 1)) (lv' := [(5, .int (nI (k + 1))), (4, .int (nI j)), (3, .int (nI r)), (0, .ref (ad 13 0)), (1, .int (nI f)), (2, .int (nI a))]) hx hb dX5_hasPart_121 hl (k := 0) rfl (nI_1 k) (by decide) rfl (fun ls hl => ?_)
                        refine lv_goto (tgt := 57) hx hb dX5_hasPart_124 (by decide) ?_
                        exact ih57 (k + 1) I13 (by omega) (by subst eI13; first | exact hz57 | (rw [← hz57]; simp [kLoop, mHPL, mw, c_8, c_9, c_10]; done) | (rw [← hz57]; simp [kLoop, mHPL, mw, c_8, c_9, c_10]; rfl)) hs13 _ _ hW hS ls (lv_sub hl [0, 1, 2, 3, 4, 5] rfl)
              exact loop57 4 0 m3 (by omega) rfl hs_45 _ _ hW hS ls (lv_sub hl [0, 1, 2, 3, 4, 5] rfl)
          exact loop45 mA 0 m2 (by omega) rfl hs_34 _ _ hW hS ls (lv_sub hl [0, 1, 2, 3, 4] rfl)
      exact loop34 mA 0 m1 (by omega) rfl hs_2 _ _ hW hS ls (lv_sub hl [0, 1, 2, 3] rfl)
    | succ d ih =>
      intro k m1 hi2 hz2 hs_2 H locs hW hS ls hl
      have hlt2 : k < mA := by omega
      have ih2 := ih
      refine lv_iload_n hx hb dX5_hasPart_2 rfl (lv_at hl 0 rfl) ?_
      refine lv_aload_n hx hb dX5_hasPart_3 rfl (lv_at hl 1 rfl) ?_
      refine w_get (v := .int (nI mA)) X hW 13 0 Nat.zero_lt_one rfl rfl inG5 6 (by decide) g504 (congrArg (fun z => some (Value.int z)) hs_2.1) dX5_hasPart_4 ?_
      refine lv_icmp_ge (tgt := 32) hx hb dX5_hasPart_7 (by decide) (fun c_14 => absurd c_14 (nI_ge (a := k) (b := mA) (by omega) (by omega))) (fun _ => ?_)
      refine lv_aload_n hx hb dX5_hasPart_10 rfl (lv_at hl 1 rfl) ?_
      refine w_get X hW 13 0 Nat.zero_lt_one rfl rfl inG5 19 (by decide) g517 rfl dX5_hasPart_11 ?_
      refine lv_iload_n hx hb dX5_hasPart_14 rfl (lv_at hl 0 rfl) ?_
      refine lv_iload_n hx hb dX5_hasPart_15 rfl (lv_at hl 0 rfl) ?_
      refine lv_iload_n hx hb dX5_hasPart_16 rfl (lv_at hl 2 rfl) ?_
      refine lv_icmp_ne (tgt := 24) hx hb dX5_hasPart_17 (by decide) (fun c_15 => ?_) (fun c_15 => ?_)
      · skip
        refine lv_iconst (v := 0) hx hb dX5_hasPart_24 (by decide) ?_
        refine w_zastN (i := k) X hW hS 39 0 Nat.zero_lt_one rfl rfl (by omega) rfl dX5_hasPart_25 (fun H locs hW hS => ?_)
        obtain ⟨I16, eI16⟩ : ∃ z, z = k_up m1 39 0 (upd (m1 39 0) k 0) := ⟨_, rfl⟩
        rw [← eI16] at hW
        have hs16 : m_S mA mK E I16 := by rw [eI16]; exact hs_2.up 39 _ _ (by decide)
        refine lv_iinc (v := nI (k + 1)) (lv' := [(3, .int (nI (k + 1))), (0, .ref (ad 13 0)), (1, .int (nI f)), (2, .int (nI a))]) hx hb dX5_hasPart_26 hl (k := 0) rfl (nI_1 k) (by decide) rfl (fun ls hl => ?_)
        refine lv_goto (tgt := 2) hx hb dX5_hasPart_29 (by decide) ?_
        exact ih2 (k + 1) I16 (by omega) (by subst eI16; first | exact hz2 | (rw [← hz2]; simp [kLoop, mHPL, mw, c_15]; done) | (rw [← hz2]; simp [kLoop, mHPL, mw, c_15]; rfl)) hs16 _ _ hW hS ls (lv_sub hl [0, 1, 2, 3] rfl)
      · skip
        refine lv_iconst (v := 1) hx hb dX5_hasPart_20 (by decide) ?_
        refine lv_goto (tgt := 25) hx hb dX5_hasPart_21 (by decide) ?_
        refine w_zastN (i := k) X hW hS 39 0 Nat.zero_lt_one rfl rfl (by omega) rfl dX5_hasPart_25 (fun H locs hW hS => ?_)
        obtain ⟨I17, eI17⟩ : ∃ z, z = k_up m1 39 0 (upd (m1 39 0) k 1) := ⟨_, rfl⟩
        rw [← eI17] at hW
        have hs17 : m_S mA mK E I17 := by rw [eI17]; exact hs_2.up 39 _ _ (by decide)
        refine lv_iinc (v := nI (k + 1)) (lv' := [(3, .int (nI (k + 1))), (0, .ref (ad 13 0)), (1, .int (nI f)), (2, .int (nI a))]) hx hb dX5_hasPart_26 hl (k := 0) rfl (nI_1 k) (by decide) rfl (fun ls hl => ?_)
        refine lv_goto (tgt := 2) hx hb dX5_hasPart_29 (by decide) ?_
        exact ih2 (k + 1) I17 (by omega) (by subst eI17; first | exact hz2 | (rw [← hz2]; simp [kLoop, mHPL, mw, c_15]; done) | (rw [← hz2]; simp [kLoop, mHPL, mw, c_15]; rfl)) hs17 _ _ hW hS ls (lv_sub hl [0, 1, 2, 3] rfl)
  exact loop2 mA 0 I (by omega) rfl hs _ _ hW hS ls (lv_sub hl [0, 1, 2, 3] rfl)
