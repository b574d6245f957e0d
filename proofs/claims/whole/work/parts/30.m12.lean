set_option maxHeartbeats 1200000 in
set_option maxRecDepth 100000 in
theorem m_X5_findHeaps (l : Launch) (G : k_G) (ad : Nat → Nat → Nat) (nA nK : Nat) (mA mK : Nat) (E : Nat → Nat) (I : k_I) (J : k_J) (hs : m_S mA mK E I) : k_Met l yX5_findHeaps cX5_findHeaps 4 none { frames := 4, cells := 0, slots := 0, locals := 97 } G [.ref (ad 13 0)] (Wd G ad nA nK I J) (none) (Wd G ad nA nK ((mFH E mA mK (I, J)).1) ((mFH E mA mK (I, J)).2)) 0 0 := by
  refine k_body (by decide) (Nat.le_of_ble_eq_true rfl) ?_
  intro p e s m below meth c ls X hr hlk hnm hW hS hl
  have hx := X.1.1
  have hb := X.1.2.1
  have hG := X.1.2.2.2.2
  have hA24 := hs.2.2.1
  have hK30 := hs.2.2.2.1
  have hl : lv_has ls 4 [(0, .ref (ad 13 0))] := hl
  refine lv_aload_n hx hb dX5_findHeaps_0 rfl (lv_at hl 0 rfl) ?_
  refine w_cVv X hS (m_X5_work l G ad nA nK mA mK E I J  hs) rfl rfl g631 g4 g628 g630 p32 hd_X5_work ⟨Nat.le_of_ble_eq_true rfl, Nat.le_of_ble_eq_true rfl⟩ (k_rec X hW 13 0 Nat.zero_lt_one rfl rfl) hW hl.1 rfl (Nat.le_of_ble_eq_true rfl) dX5_findHeaps_1 (Nat.zero_le _) (Nat.zero_le _) (fun H locs hW hS => ?_)
  obtain ⟨I1, eI1⟩ : ∃ z, z = (mWork E mA (I, J)).1 := ⟨_, rfl⟩
  rw [← eI1] at hW
  have hs1 : m_S mA mK E I1 := by rw [eI1]; exact (mWork_S (s := (I, J)) hs)
  obtain ⟨J1, eJ1⟩ : ∃ z, z = (mWork E mA (I, J)).2 := ⟨_, rfl⟩
  rw [← eJ1] at hW
  refine lv_iconst (v := 0) hx hb dX5_findHeaps_4 (by decide) ?_
  refine lv_istore_n (lv' := [(1, .int 0), (0, .ref (ad 13 0))]) hx hb dX5_findHeaps_5 rfl hl (by decide) rfl (fun ls hl => ?_)
  have loop6 : ∀ (d q : Nat) (m1 : k_I), q + d = mK → (kLoop (fun q I => mw 44 q (if mFinds mA I J1 (J1 37 0 q) q = 0 then nI q else -1) I) d q m1 = mHeap0 mA mK J1 I1) → (m_S mA mK E m1) → ∀ (H : Heap) (locs : List Loc), Wd G ad nA nK m1 J1 H → va_S (k_A G) s.heap H locs → ∀ ls : Array Slot, lv_has ls 4 [(1, .int (nI q)), (0, .ref (ad 13 0))] → W p l e { frames := 4, cells := 0, slots := 0, locals := 97 } s m ([.ref (ad 13 0)] : List Value).toArray below meth c H locs 0 0 (MQ below (k_Q G (none) (Wd G ad nA nK ((mFH E mA mK (I, J)).1) ((mFH E mA mK (I, J)).2))) ([.ref (ad 13 0)] : List Value).toArray s 0 0 (k_A G)) (F0 m 6 ls []) := by
    intro d
    induction d with
    | zero =>
      intro q m1 hi6 hz6 hs_6 H locs hW hS ls hl
      have eIm1 : m1 = mHeap0 mA mK J1 I1 := hz6
      refine lv_iload_n hx hb dX5_findHeaps_6 rfl (lv_at hl 0 rfl) ?_
      refine lv_aload_n hx hb dX5_findHeaps_7 rfl (lv_at hl 1 rfl) ?_
      refine w_get (v := .int (nI mK)) X hW 13 0 Nat.zero_lt_one rfl rfl inG5 16 (by decide) g514 (congrArg (fun z => some (Value.int z)) hs_6.2.1) dX5_findHeaps_8 ?_
      refine lv_icmp_ge (tgt := 45) hx hb dX5_findHeaps_11 (by decide) (fun _ => ?_) (fun c_2 => absurd (nI_le (a := mK) (b := q) (by omega) (by omega)) c_2)
      refine lv_iconst (v := 1) hx hb dX5_findHeaps_45 (by decide) ?_
      refine lv_istore_n (lv' := [(1, .int 1), (0, .ref (ad 13 0))]) hx hb dX5_findHeaps_46 rfl hl (by decide) rfl (fun ls hl => ?_)
      have hH0 : m_H mK m1 := by rw [eIm1]; exact mHeap0_H
      have loop47 : ∀ (d : Nat) (m2 : k_I), m_H mK m2 → m_S mA mK E m2 → mMu (m2 44 0) mK < d → mHeapsF J1 mK d m2 = mHeapsF J1 mK 1000 m1 → ∀ (H : Heap) (locs : List Loc), Wd G ad nA nK m2 J1 H → va_S (k_A G) s.heap H locs → ∀ ls : Array Slot, lv_has ls 4 [(1, .int 1), (0, .ref (ad 13 0))] → W p l e { frames := 4, cells := 0, slots := 0, locals := 97 } s m ([.ref (ad 13 0)] : List Value).toArray below meth c H locs 0 0 (MQ below (k_Q G (none) (Wd G ad nA nK ((mFH E mA mK (I, J)).1) ((mFH E mA mK (I, J)).2))) ([.ref (ad 13 0)] : List Value).toArray s 0 0 (k_A G)) (F0 m 47 ls []) := by
        intro d
        induction d with
        | zero =>
          intro m2 hm2 hs_47 hmu hz47 H locs hW hS ls hl
          exact absurd hmu (Nat.not_lt_zero _)
        | succ d ih =>
          intro m2 hm2 hs_47 hmu hz47 H locs hW hS ls hl
          have ih47 := ih
          refine lv_iload_n hx hb dX5_findHeaps_47 rfl (lv_at hl 0 rfl) ?_
          refine lv_if_eq (tgt := 158) hx hb dX5_findHeaps_48 (by decide) (fun c_3 => absurd c_3 (by decide)) (fun _ => ?_)
          refine lv_iconst (v := 0) hx hb dX5_findHeaps_51 (by decide) ?_
          refine lv_istore_n (lv' := [(1, .int 0), (0, .ref (ad 13 0))]) hx hb dX5_findHeaps_52 rfl hl (by decide) rfl (fun ls hl => ?_)
          refine lv_iconst (v := 0) hx hb dX5_findHeaps_53 (by decide) ?_
          refine lv_istore_n (lv' := [(2, .int 0), (1, .int 0), (0, .ref (ad 13 0))]) hx hb dX5_findHeaps_54 rfl hl (by decide) rfl (fun ls hl => ?_)
          have loop55 : ∀ (d5 q : Nat) (m3 : k_I) (b3 : Bool), q + d5 = mK → (kLoop (mSwq J1 mK) d5 q (m3, b3) = mSw J1 mK m2) → (m_S mA mK E m3) → ∀ (H : Heap) (locs : List Loc), Wd G ad nA nK m3 J1 H → va_S (k_A G) s.heap H locs → ∀ ls : Array Slot, lv_has ls 4 [(2, .int (nI q)), (1, .int (k_b b3)), (0, .ref (ad 13 0))] → W p l e { frames := 4, cells := 0, slots := 0, locals := 97 } s m ([.ref (ad 13 0)] : List Value).toArray below meth c H locs 0 0 (MQ below (k_Q G (none) (Wd G ad nA nK ((mFH E mA mK (I, J)).1) ((mFH E mA mK (I, J)).2))) ([.ref (ad 13 0)] : List Value).toArray s 0 0 (k_A G)) (F0 m 55 ls []) := by
            intro d5
            induction d5 with
            | zero =>
              intro q m3 b3 hi55 hz55 hs_55 H locs hW hS ls hl
              have eIm3 : m3 = (mSw J1 mK m2).1 := congrArg Prod.fst hz55
              have eIbb3 : b3 = (mSw J1 mK m2).2 := congrArg Prod.snd hz55
              refine lv_iload_n hx hb dX5_findHeaps_55 rfl (lv_at hl 0 rfl) ?_
              refine lv_aload_n hx hb dX5_findHeaps_56 rfl (lv_at hl 2 rfl) ?_
              refine w_get (v := .int (nI mK)) X hW 13 0 Nat.zero_lt_one rfl rfl inG5 16 (by decide) g514 (congrArg (fun z => some (Value.int z)) hs_55.2.1) dX5_findHeaps_57 ?_
              refine lv_icmp_ge (tgt := 155) hx hb dX5_findHeaps_60 (by decide) (fun _ => ?_) (fun c_4 => absurd (nI_le (a := mK) (b := q) (by omega) (by omega)) c_4)
              refine lv_goto (tgt := 47) hx hb dX5_findHeaps_155 (by decide) ?_
              have hsw := mSw_m (J := J1) hK30 hm2
              cases b3 with
              | true =>
                exact ih47 m3 (by rw [eIm3]; exact hsw.1) hs_55 (by rw [eIm3]; have := hsw.2.2 eIbb3.symm; omega) (by rw [← hz47]; simp only [mHeapsF]; rw [if_pos eIbb3.symm, eIm3]) _ _ hW hS ls (lv_sub hl [1, 2] rfl)
              | false =>
                have hl : lv_has ls 4 [(1, .int 0), (0, .ref (ad 13 0))] := lv_sub hl [1, 2] rfl
                refine lv_iload_n hx hb dX5_findHeaps_47 rfl (lv_at hl 0 rfl) ?_
                refine lv_if_eq (tgt := 158) hx hb dX5_findHeaps_48 (by decide) (fun _ => ?_) (fun c_5 => absurd (by decide) c_5)
                exact w_vret X hr hlk hS (hW.to (by have h9 : m3 = mHeapsF J1 mK 1000 m1 := (by rw [← hz47]; simp only [mHeapsF]; rw [if_neg (by rw [← eIbb3]; decide), eIm3]); rw [h9, eIm1, eI1, eJ1]; rfl) (by rw [eJ1]; rfl)) dX5_findHeaps_158
            | succ d5 ih =>
              intro q m3 b3 hi55 hz55 hs_55 H locs hW hS ls hl
              have hlt55 : q < mK := by omega
              have ih55 := ih
              refine lv_iload_n hx hb dX5_findHeaps_55 rfl (lv_at hl 0 rfl) ?_
              refine lv_aload_n hx hb dX5_findHeaps_56 rfl (lv_at hl 2 rfl) ?_
              refine w_get (v := .int (nI mK)) X hW 13 0 Nat.zero_lt_one rfl rfl inG5 16 (by decide) g514 (congrArg (fun z => some (Value.int z)) hs_55.2.1) dX5_findHeaps_57 ?_
              refine lv_icmp_ge (tgt := 155) hx hb dX5_findHeaps_60 (by decide) (fun c_6 => absurd c_6 (nI_ge (a := q) (b := mK) (by omega) (by omega))) (fun _ => ?_)
              refine lv_iconst (v := 0) hx hb dX5_findHeaps_63 (by decide) ?_
              refine lv_istore_n (lv' := [(3, .int 0), (2, .int (nI q)), (1, .int (k_b b3)), (0, .ref (ad 13 0))]) hx hb dX5_findHeaps_64 rfl hl (by decide) rfl (fun ls hl => ?_)
              have loop65 : ∀ (d6 p1 : Nat) (m4 : k_I) (b4 : Bool), p1 + d6 = mK → (kLoop (mSw1 J1 q) d6 p1 (m4, b4) = mSwq J1 mK q (m3, b3)) → (m_S mA mK E m4) → ∀ (H : Heap) (locs : List Loc), Wd G ad nA nK m4 J1 H → va_S (k_A G) s.heap H locs → ∀ ls : Array Slot, lv_has ls 4 [(3, .int (nI p1)), (2, .int (nI q)), (1, .int (k_b b4)), (0, .ref (ad 13 0))] → W p l e { frames := 4, cells := 0, slots := 0, locals := 97 } s m ([.ref (ad 13 0)] : List Value).toArray below meth c H locs 0 0 (MQ below (k_Q G (none) (Wd G ad nA nK ((mFH E mA mK (I, J)).1) ((mFH E mA mK (I, J)).2))) ([.ref (ad 13 0)] : List Value).toArray s 0 0 (k_A G)) (F0 m 65 ls []) := by
                intro d6
                induction d6 with
                | zero =>
                  intro p1 m4 b4 hi65 hz65 hs_65 H locs hW hS ls hl
                  have eIm4 : m4 = (mSwq J1 mK q (m3, b3)).1 := congrArg Prod.fst hz65
                  have eIbb4 : b4 = (mSwq J1 mK q (m3, b3)).2 := congrArg Prod.snd hz65
                  refine lv_iload_n hx hb dX5_findHeaps_65 rfl (lv_at hl 0 rfl) ?_
                  refine lv_aload_n hx hb dX5_findHeaps_66 rfl (lv_at hl 3 rfl) ?_
                  refine w_get (v := .int (nI mK)) X hW 13 0 Nat.zero_lt_one rfl rfl inG5 16 (by decide) g514 (congrArg (fun z => some (Value.int z)) hs_65.2.1) dX5_findHeaps_67 ?_
                  refine lv_icmp_ge (tgt := 149) hx hb dX5_findHeaps_70 (by decide) (fun _ => ?_) (fun c_7 => absurd (nI_le (a := mK) (b := p1) (by omega) (by omega)) c_7)
                  refine lv_iinc (v := nI (q + 1)) (lv' := [(2, .int (nI (q + 1))), (3, .int (nI p1)), (1, .int (k_b b4)), (0, .ref (ad 13 0))]) hx hb dX5_findHeaps_149 hl (k := 1) rfl (nI_1 q) (by decide) rfl (fun ls hl => ?_)
                  refine lv_goto (tgt := 55) hx hb dX5_findHeaps_152 (by decide) ?_
                  exact ih55 (q + 1) m4 b4 (by omega) (by subst eIbb4 eIm4; first | exact hz55 | (rw [← hz55]; simp [kLoop, mSw1, mw]; done) | (rw [← hz55]; simp [kLoop, mSw1, mw]; rfl)) hs_65 _ _ hW hS ls (lv_sub hl [0, 2, 3] rfl)
                | succ d6 ih =>
                  intro p1 m4 b4 hi65 hz65 hs_65 H locs hW hS ls hl
                  have hlt65 : p1 < mK := by omega
                  have ih65 := ih
                  refine lv_iload_n hx hb dX5_findHeaps_65 rfl (lv_at hl 0 rfl) ?_
                  refine lv_aload_n hx hb dX5_findHeaps_66 rfl (lv_at hl 3 rfl) ?_
                  refine w_get (v := .int (nI mK)) X hW 13 0 Nat.zero_lt_one rfl rfl inG5 16 (by decide) g514 (congrArg (fun z => some (Value.int z)) hs_65.2.1) dX5_findHeaps_67 ?_
                  refine lv_icmp_ge (tgt := 149) hx hb dX5_findHeaps_70 (by decide) (fun c_8 => absurd c_8 (nI_ge (a := p1) (b := mK) (by omega) (by omega))) (fun _ => ?_)
                  refine lv_aload_n hx hb dX5_findHeaps_73 rfl (lv_at hl 3 rfl) ?_
                  refine w_get X hW 13 0 Nat.zero_lt_one rfl rfl inG5 24 (by decide) g522 rfl dX5_findHeaps_74 ?_
                  refine lv_iload_n hx hb dX5_findHeaps_77 rfl (lv_at hl 1 rfl) ?_
                  refine w_ialdN (i := q) X hW 44 0 Nat.zero_lt_one rfl (by omega) dX5_findHeaps_78 ?_
                  refine lv_if_lt (tgt := 143) hx hb dX5_findHeaps_79 (by decide) (fun c_9 => ?_) (fun c_9 => ?_)
                  · skip
                    refine lv_iinc (v := nI (p1 + 1)) (lv' := [(3, .int (nI (p1 + 1))), (2, .int (nI q)), (1, .int (k_b b4)), (0, .ref (ad 13 0))]) hx hb dX5_findHeaps_143 hl (k := 0) rfl (nI_1 p1) (by decide) rfl (fun ls hl => ?_)
                    refine lv_goto (tgt := 65) hx hb dX5_findHeaps_146 (by decide) ?_
                    exact ih65 (p1 + 1) m4 b4 (by omega) (by rw [← hz65, kLoop_s]; exact congrArg (kLoop (mSw1 J1 q) d6 (p1 + 1)) (mSw1_1 c_9)) hs_65 _ _ hW hS ls (lv_sub hl [0, 1, 2, 3] rfl)
                  · skip
                    refine lv_aload_n hx hb dX5_findHeaps_82 rfl (lv_at hl 3 rfl) ?_
                    refine w_get X hW 13 0 Nat.zero_lt_one rfl rfl inG5 24 (by decide) g522 rfl dX5_findHeaps_83 ?_
                    refine lv_iload_n hx hb dX5_findHeaps_86 rfl (lv_at hl 0 rfl) ?_
                    refine w_ialdN (i := p1) X hW 44 0 Nat.zero_lt_one rfl (by omega) dX5_findHeaps_87 ?_
                    refine lv_if_lt (tgt := 143) hx hb dX5_findHeaps_88 (by decide) (fun c_10 => ?_) (fun c_10 => ?_)
                    · skip
                      refine lv_iinc (v := nI (p1 + 1)) (lv' := [(3, .int (nI (p1 + 1))), (2, .int (nI q)), (1, .int (k_b b4)), (0, .ref (ad 13 0))]) hx hb dX5_findHeaps_143 hl (k := 0) rfl (nI_1 p1) (by decide) rfl (fun ls hl => ?_)
                      refine lv_goto (tgt := 65) hx hb dX5_findHeaps_146 (by decide) ?_
                      exact ih65 (p1 + 1) m4 b4 (by omega) (by rw [← hz65, kLoop_s]; exact congrArg (kLoop (mSw1 J1 q) d6 (p1 + 1)) (mSw1_2 c_9 c_10)) hs_65 _ _ hW hS ls (lv_sub hl [0, 1, 2, 3] rfl)
                    · skip
                      refine lv_aload_n hx hb dX5_findHeaps_91 rfl (lv_at hl 3 rfl) ?_
                      refine w_get X hW 13 0 Nat.zero_lt_one rfl rfl inG5 24 (by decide) g522 rfl dX5_findHeaps_92 ?_
                      refine lv_iload_n hx hb dX5_findHeaps_95 rfl (lv_at hl 0 rfl) ?_
                      refine w_ialdN (i := p1) X hW 44 0 Nat.zero_lt_one rfl (by omega) dX5_findHeaps_96 ?_
                      refine lv_aload_n hx hb dX5_findHeaps_97 rfl (lv_at hl 3 rfl) ?_
                      refine w_get X hW 13 0 Nat.zero_lt_one rfl rfl inG5 24 (by decide) g522 rfl dX5_findHeaps_98 ?_
                      refine lv_iload_n hx hb dX5_findHeaps_101 rfl (lv_at hl 1 rfl) ?_
                      refine w_ialdN (i := q) X hW 44 0 Nat.zero_lt_one rfl (by omega) dX5_findHeaps_102 ?_
                      refine lv_icmp_ge (tgt := 143) hx hb dX5_findHeaps_103 (by decide) (fun c_11 => ?_) (fun c_11 => ?_)
                      · skip
                        refine lv_iinc (v := nI (p1 + 1)) (lv' := [(3, .int (nI (p1 + 1))), (2, .int (nI q)), (1, .int (k_b b4)), (0, .ref (ad 13 0))]) hx hb dX5_findHeaps_143 hl (k := 0) rfl (nI_1 p1) (by decide) rfl (fun ls hl => ?_)
                        refine lv_goto (tgt := 65) hx hb dX5_findHeaps_146 (by decide) ?_
                        exact ih65 (p1 + 1) m4 b4 (by omega) (by rw [← hz65, kLoop_s]; exact congrArg (kLoop (mSw1 J1 q) d6 (p1 + 1)) (mSw1_3 c_9 c_10 c_11)) hs_65 _ _ hW hS ls (lv_sub hl [0, 1, 2, 3] rfl)
                      · skip
                        refine lv_aload_n hx hb dX5_findHeaps_106 rfl (lv_at hl 3 rfl) ?_
                        refine lv_aload_n hx hb dX5_findHeaps_107 rfl (lv_at hl 3 rfl) ?_
                        refine w_get X hW 13 0 Nat.zero_lt_one rfl rfl inG5 17 (by decide) g515 rfl dX5_findHeaps_108 ?_
                        refine lv_iload_n hx hb dX5_findHeaps_111 rfl (lv_at hl 0 rfl) ?_
                        refine w_laldN (i := p1) X hW 37 0 Nat.zero_lt_one rfl (by omega) dX5_findHeaps_112 ?_
                        refine lv_aload_n hx hb dX5_findHeaps_113 rfl (lv_at hl 3 rfl) ?_
                        refine w_get X hW 13 0 Nat.zero_lt_one rfl rfl inG5 17 (by decide) g515 rfl dX5_findHeaps_114 ?_
                        refine lv_iload_n hx hb dX5_findHeaps_117 rfl (lv_at hl 1 rfl) ?_
                        refine w_laldN (i := q) X hW 37 0 Nat.zero_lt_one rfl (by omega) dX5_findHeaps_118 ?_
                        refine w_cV1 X hS (m_X5_far l G ad nA nK mA mK E m4 J1 (J1 37 0 p1) (J1 37 0 q) ) rfl rfl g702 g4 g699 g701 p40 hd_X5_far ⟨Nat.le_of_ble_eq_true rfl, Nat.le_of_ble_eq_true rfl⟩ (k_rec X hW 13 0 Nat.zero_lt_one rfl rfl) hW hl.1 rfl (Nat.le_of_ble_eq_true rfl) dX5_findHeaps_119 (Nat.zero_le _) (Nat.zero_le _) (fun H locs hW hS => ?_)
                        refine lv_aload_n hx hb dX5_findHeaps_122 rfl (lv_at hl 3 rfl) ?_
                        refine w_get X hW 13 0 Nat.zero_lt_one rfl rfl inG5 4 (by decide) g502 rfl dX5_findHeaps_123 ?_
                        refine lv_icmp_gt (tgt := 143) hx hb dX5_findHeaps_126 (by decide) (fun c_12 => ?_) (fun c_12 => ?_)
                        · skip
                          refine lv_iinc (v := nI (p1 + 1)) (lv' := [(3, .int (nI (p1 + 1))), (2, .int (nI q)), (1, .int (k_b b4)), (0, .ref (ad 13 0))]) hx hb dX5_findHeaps_143 hl (k := 0) rfl (nI_1 p1) (by decide) rfl (fun ls hl => ?_)
                          refine lv_goto (tgt := 65) hx hb dX5_findHeaps_146 (by decide) ?_
                          exact ih65 (p1 + 1) m4 b4 (by omega) (by rw [← hz65, kLoop_s]; exact congrArg (kLoop (mSw1 J1 q) d6 (p1 + 1)) (mSw1_4 c_9 c_10 c_11 c_12)) hs_65 _ _ hW hS ls (lv_sub hl [0, 1, 2, 3] rfl)
                        · skip
                          refine lv_aload_n hx hb dX5_findHeaps_129 rfl (lv_at hl 3 rfl) ?_
                          refine w_get X hW 13 0 Nat.zero_lt_one rfl rfl inG5 24 (by decide) g522 rfl dX5_findHeaps_130 ?_
                          refine lv_iload_n hx hb dX5_findHeaps_133 rfl (lv_at hl 1 rfl) ?_
                          refine lv_aload_n hx hb dX5_findHeaps_134 rfl (lv_at hl 3 rfl) ?_
                          refine w_get X hW 13 0 Nat.zero_lt_one rfl rfl inG5 24 (by decide) g522 rfl dX5_findHeaps_135 ?_
                          refine lv_iload_n hx hb dX5_findHeaps_138 rfl (lv_at hl 0 rfl) ?_
                          refine w_ialdN (i := p1) X hW 44 0 Nat.zero_lt_one rfl (by omega) dX5_findHeaps_139 ?_
                          refine w_iastN (i := q) X hW hS 44 0 Nat.zero_lt_one rfl (by omega) rfl dX5_findHeaps_140 (fun H locs hW hS => ?_)
                          obtain ⟨I13, eI13⟩ : ∃ z, z = k_up m4 44 0 (upd (m4 44 0) q (m4 44 0 p1)) := ⟨_, rfl⟩
                          rw [← eI13] at hW
                          have hs13 : m_S mA mK E I13 := by rw [eI13]; exact hs_65.up 44 _ _ (by decide)
                          refine lv_iconst (v := 1) hx hb dX5_findHeaps_141 (by decide) ?_
                          refine lv_istore_n (lv' := [(1, .int 1), (3, .int (nI p1)), (2, .int (nI q)), (0, .ref (ad 13 0))]) hx hb dX5_findHeaps_142 rfl hl (by decide) rfl (fun ls hl => ?_)
                          refine lv_iinc (v := nI (p1 + 1)) (lv' := [(3, .int (nI (p1 + 1))), (1, .int 1), (2, .int (nI q)), (0, .ref (ad 13 0))]) hx hb dX5_findHeaps_143 hl (k := 1) rfl (nI_1 p1) (by decide) rfl (fun ls hl => ?_)
                          refine lv_goto (tgt := 65) hx hb dX5_findHeaps_146 (by decide) ?_
                          exact ih65 (p1 + 1) I13 true (by omega) (by rw [← hz65, kLoop_s]; rw [eI13]; exact congrArg (kLoop (mSw1 J1 q) d6 (p1 + 1)) (mSw1_5 c_9 c_10 c_11 c_12)) hs13 _ _ hW hS ls (lv_sub hl [0, 2, 1, 3] rfl)
              exact loop65 mK 0 m3 b3 (by omega) rfl hs_55 _ _ hW hS ls (lv_sub hl [0, 1, 2, 3] rfl)
          exact loop55 mK 0 m2 false (by omega) rfl hs_47 _ _ hW hS ls (lv_sub hl [0, 1, 2] rfl)
      exact loop47 1000 m1 hH0 hs_6 (m_H_mu hK30 hH0) rfl _ _ hW hS ls (lv_sub hl [0, 1] rfl)
    | succ d ih =>
      intro q m1 hi6 hz6 hs_6 H locs hW hS ls hl
      have hlt6 : q < mK := by omega
      have ih6 := ih
      refine lv_iload_n hx hb dX5_findHeaps_6 rfl (lv_at hl 0 rfl) ?_
      refine lv_aload_n hx hb dX5_findHeaps_7 rfl (lv_at hl 1 rfl) ?_
      refine w_get (v := .int (nI mK)) X hW 13 0 Nat.zero_lt_one rfl rfl inG5 16 (by decide) g514 (congrArg (fun z => some (Value.int z)) hs_6.2.1) dX5_findHeaps_8 ?_
      refine lv_icmp_ge (tgt := 45) hx hb dX5_findHeaps_11 (by decide) (fun c_14 => absurd c_14 (nI_ge (a := q) (b := mK) (by omega) (by omega))) (fun _ => ?_)
      refine lv_aload_n hx hb dX5_findHeaps_14 rfl (lv_at hl 1 rfl) ?_
      refine w_get X hW 13 0 Nat.zero_lt_one rfl rfl inG5 24 (by decide) g522 rfl dX5_findHeaps_15 ?_
      refine lv_iload_n hx hb dX5_findHeaps_18 rfl (lv_at hl 0 rfl) ?_
      refine lv_aload_n hx hb dX5_findHeaps_19 rfl (lv_at hl 1 rfl) ?_
      refine lv_aload_n hx hb dX5_findHeaps_20 rfl (lv_at hl 1 rfl) ?_
      refine w_get X hW 13 0 Nat.zero_lt_one rfl rfl inG5 17 (by decide) g515 rfl dX5_findHeaps_21 ?_
      refine lv_iload_n hx hb dX5_findHeaps_24 rfl (lv_at hl 0 rfl) ?_
      refine w_laldN (i := q) X hW 37 0 Nat.zero_lt_one rfl (by omega) dX5_findHeaps_25 ?_
      refine lv_iload_n hx hb dX5_findHeaps_26 rfl (lv_at hl 0 rfl) ?_
      refine w_cV1 X hS (m_X5_findsWith l G ad nA nK mA mK E m1 J1 (J1 37 0 q) q hs_6 (by first | assumption | omega)) rfl rfl g754 g4 g751 g753 p47 hd_X5_findsWith ⟨Nat.le_of_ble_eq_true rfl, Nat.le_of_ble_eq_true rfl⟩ (k_rec X hW 13 0 Nat.zero_lt_one rfl rfl) hW hl.1 rfl (Nat.le_of_ble_eq_true rfl) dX5_findHeaps_27 (Nat.zero_le _) (Nat.zero_le _) (fun H locs hW hS => ?_)
      refine lv_if_ne (tgt := 37) hx hb dX5_findHeaps_30 (by decide) (fun c_15 => ?_) (fun c_15 => ?_)
      · skip
        refine lv_iconst (v := (-1)) hx hb dX5_findHeaps_37 (by decide) ?_
        refine w_iastN (i := q) X hW hS 44 0 Nat.zero_lt_one rfl (by omega) rfl dX5_findHeaps_38 (fun H locs hW hS => ?_)
        obtain ⟨I16, eI16⟩ : ∃ z, z = k_up m1 44 0 (upd (m1 44 0) q (-1)) := ⟨_, rfl⟩
        rw [← eI16] at hW
        have hs16 : m_S mA mK E I16 := by rw [eI16]; exact hs_6.up 44 _ _ (by decide)
        refine lv_iinc (v := nI (q + 1)) (lv' := [(1, .int (nI (q + 1))), (0, .ref (ad 13 0))]) hx hb dX5_findHeaps_39 hl (k := 0) rfl (nI_1 q) (by decide) rfl (fun ls hl => ?_)
        refine lv_goto (tgt := 6) hx hb dX5_findHeaps_42 (by decide) ?_
        exact ih6 (q + 1) I16 (by omega) (by subst eI16; first | exact hz6 | (rw [← hz6]; simp [kLoop, mSw1, mw, c_15]; done) | (rw [← hz6]; simp [kLoop, mSw1, mw, c_15]; rfl)) hs16 _ _ hW hS ls (lv_sub hl [0, 1] rfl)
      · skip
        refine lv_iload_n hx hb dX5_findHeaps_33 rfl (lv_at hl 0 rfl) ?_
        refine lv_goto (tgt := 38) hx hb dX5_findHeaps_34 (by decide) ?_
        refine w_iastN (i := q) X hW hS 44 0 Nat.zero_lt_one rfl (by omega) rfl dX5_findHeaps_38 (fun H locs hW hS => ?_)
        obtain ⟨I17, eI17⟩ : ∃ z, z = k_up m1 44 0 (upd (m1 44 0) q (nI q)) := ⟨_, rfl⟩
        rw [← eI17] at hW
        have hs17 : m_S mA mK E I17 := by rw [eI17]; exact hs_6.up 44 _ _ (by decide)
        refine lv_iinc (v := nI (q + 1)) (lv' := [(1, .int (nI (q + 1))), (0, .ref (ad 13 0))]) hx hb dX5_findHeaps_39 hl (k := 0) rfl (nI_1 q) (by decide) rfl (fun ls hl => ?_)
        refine lv_goto (tgt := 6) hx hb dX5_findHeaps_42 (by decide) ?_
        exact ih6 (q + 1) I17 (by omega) (by subst eI17; first | exact hz6 | (rw [← hz6]; simp [kLoop, mSw1, mw, c_15]; done) | (rw [← hz6]; simp [kLoop, mSw1, mw, c_15]; rfl)) hs17 _ _ hW hS ls (lv_sub hl [0, 1] rfl)
  exact loop6 mK 0 I1 (by omega) rfl hs1 _ _ hW hS ls (lv_sub hl [0, 1] rfl)
set_option maxHeartbeats 1200000 in
set_option maxRecDepth 100000 in
theorem m_X5_heapOf (l : Launch) (G : k_G) (ad : Nat → Nat → Nat) (nA nK : Nat) (mA mK : Nat) (E : Nat → Nat) (I : k_I) (J : k_J) (q : Nat) (hs : m_S mA mK E I) (hq : q < mK) (hH : m_H mK I) : k_Met l yX5_heapOf cX5_heapOf 4 (some FieldType.int) { frames := 0, cells := 0, slots := 0, locals := 0 } G [.ref (ad 13 0), .int (nI q)] (Wd G ad nA nK I J) (some (.int (mHeapOf mK I q))) (Wd G ad nA nK I J) 0 0 := by
  refine k_body (by decide) (Nat.le_of_ble_eq_true rfl) ?_
  intro p e s m below meth c ls X hr hlk hnm hW hS hl
  have hx := X.1.1
  have hb := X.1.2.1
  have hG := X.1.2.2.2.2
  have hA24 := hs.2.2.1
  have hK30 := hs.2.2.2.1
  have hl : lv_has ls 4 [(0, .ref (ad 13 0)), (1, .int (nI q))] := hl
  refine lv_aload_n hx hb dX5_heapOf_0 rfl (lv_at hl 0 rfl) ?_
  refine w_get X hW 13 0 Nat.zero_lt_one rfl rfl inG5 24 (by decide) g522 rfl dX5_heapOf_1 ?_
  refine lv_iload_n hx hb dX5_heapOf_4 rfl (lv_at hl 1 rfl) ?_
  refine w_ialdN (i := q) X hW 44 0 Nat.zero_lt_one rfl (by omega) dX5_heapOf_5 ?_
  refine lv_if_ge (tgt := 11) hx hb dX5_heapOf_6 (by decide) (fun c_1 => ?_) (fun c_1 => ?_)
  · skip
    have c_1' : ¬ I 44 0 q < 0 := Int32.not_lt.mpr c_1
    obtain ⟨h9, hh9, eh9⟩ : ∃ h, h < mK ∧ I 44 0 q = nI h := (hH q hq).resolve_left c_1'
    refine lv_iconst (v := 0) hx hb dX5_heapOf_11 (by decide) ?_
    refine lv_istore_n (lv' := [(2, .int 0), (0, .ref (ad 13 0)), (1, .int (nI q))]) hx hb dX5_heapOf_12 rfl hl (by decide) rfl (fun ls hl => ?_)
    refine lv_iconst (v := 0) hx hb dX5_heapOf_13 (by decide) ?_
    refine lv_istore_n (lv' := [(3, .int 0), (2, .int 0), (0, .ref (ad 13 0)), (1, .int (nI q))]) hx hb dX5_heapOf_14 rfl hl (by decide) rfl (fun ls hl => ?_)
    have loop15 : ∀ (d p1 : Nat) (n : Int32), p1 + d = h9 → (kLoop (fun p n => n + (if I 44 0 p = nI p then 1 else 0)) d p1 n = mHeapOf mK I q) → ∀ (H : Heap) (locs : List Loc), Wd G ad nA nK I J H → va_S (k_A G) s.heap H locs → ∀ ls : Array Slot, lv_has ls 4 [(3, .int (nI p1)), (2, .int n), (0, .ref (ad 13 0)), (1, .int (nI q))] → W p l e { frames := 0, cells := 0, slots := 0, locals := 0 } s m ([.ref (ad 13 0), .int (nI q)] : List Value).toArray below meth c H locs 0 0 (MQ below (k_Q G (some (.int (mHeapOf mK I q))) (Wd G ad nA nK I J)) ([.ref (ad 13 0), .int (nI q)] : List Value).toArray s 0 0 (k_A G)) (F0 m 15 ls []) := by
      intro d
      induction d with
      | zero =>
        intro p1 n hi15 hz15  H locs hW hS ls hl
        refine lv_iload_n hx hb dX5_heapOf_15 rfl (lv_at hl 0 rfl) ?_
        refine lv_aload_n hx hb dX5_heapOf_16 rfl (lv_at hl 2 rfl) ?_
        refine w_get X hW 13 0 Nat.zero_lt_one rfl rfl inG5 24 (by decide) g522 rfl dX5_heapOf_17 ?_
        refine lv_iload_n hx hb dX5_heapOf_20 rfl (lv_at hl 3 rfl) ?_
        refine w_ialdN (i := q) X hW 44 0 Nat.zero_lt_one rfl (by omega) dX5_heapOf_21 ?_
        refine lv_icmp_ge (tgt := 49) hx hb dX5_heapOf_22 (by decide) (fun c_2 => ?_) (fun c_2 => absurd (by rw [eh9]; exact nI_le (a := h9) (b := p1) (by omega) (by omega)) c_2)
        refine lv_iload_n hx hb dX5_heapOf_49 rfl (lv_at hl 1 rfl) ?_
        exact w_iret X hr hlk hS (by first | exact hz15 | (rw [← hz15]; simp [kLoop, c_1, c_1', c_2]; done) | (simp [← hz15, kLoop, c_1, c_1', c_2]; done) | (rw [← hz15]; simp only [kLoop, c_1, c_1', c_2, eq_self, if_true, if_false, Bool.false_eq_true, decide_true, decide_false, Bool.not_true, Bool.not_false, Bool.false_or, Bool.true_or, Bool.and_true, Bool.true_and, Bool.false_and, Bool.and_false, Bool.or_true, Bool.or_false]; done) | (simp [kLoop, c_1, c_1', c_2]; done)) hW dX5_heapOf_50
      | succ d ih =>
        intro p1 n hi15 hz15  H locs hW hS ls hl
        have hlt15 : p1 < h9 := by omega
        have ih15 := ih
        refine lv_iload_n hx hb dX5_heapOf_15 rfl (lv_at hl 0 rfl) ?_
        refine lv_aload_n hx hb dX5_heapOf_16 rfl (lv_at hl 2 rfl) ?_
        refine w_get X hW 13 0 Nat.zero_lt_one rfl rfl inG5 24 (by decide) g522 rfl dX5_heapOf_17 ?_
        refine lv_iload_n hx hb dX5_heapOf_20 rfl (lv_at hl 3 rfl) ?_
        refine w_ialdN (i := q) X hW 44 0 Nat.zero_lt_one rfl (by omega) dX5_heapOf_21 ?_
        refine lv_icmp_ge (tgt := 49) hx hb dX5_heapOf_22 (by decide) (fun c_3 => absurd c_3 (by rw [eh9]; exact nI_ge (a := p1) (b := h9) (by omega) (by omega))) (fun c_3 => ?_)
        refine lv_iload_n hx hb dX5_heapOf_25 rfl (lv_at hl 1 rfl) ?_
        refine lv_aload_n hx hb dX5_heapOf_26 rfl (lv_at hl 2 rfl) ?_
        refine w_get X hW 13 0 Nat.zero_lt_one rfl rfl inG5 24 (by decide) g522 rfl dX5_heapOf_27 ?_
        refine lv_iload_n hx hb dX5_heapOf_30 rfl (lv_at hl 0 rfl) ?_
        refine w_ialdN (i := p1) X hW 44 0 Nat.zero_lt_one rfl (by omega) dX5_heapOf_31 ?_
        refine lv_iload_n hx hb dX5_heapOf_32 rfl (lv_at hl 0 rfl) ?_
        refine lv_icmp_ne (tgt := 40) hx hb dX5_heapOf_33 (by decide) (fun c_4 => ?_) (fun c_4 => ?_)
        · skip
          refine lv_iconst (v := 0) hx hb dX5_heapOf_40 (by decide) ?_
          refine lv_iadd hx hb dX5_heapOf_41 ?_
          refine lv_istore_n (lv' := [(2, .int (n + 0)), (3, .int (nI p1)), (0, .ref (ad 13 0)), (1, .int (nI q))]) hx hb dX5_heapOf_42 rfl hl (by decide) rfl (fun ls hl => ?_)
          refine lv_iinc (v := nI (p1 + 1)) (lv' := [(3, .int (nI (p1 + 1))), (2, .int (n + 0)), (0, .ref (ad 13 0)), (1, .int (nI q))]) hx hb dX5_heapOf_43 hl (k := 1) rfl (nI_1 p1) (by decide) rfl (fun ls hl => ?_)
          refine lv_goto (tgt := 15) hx hb dX5_heapOf_46 (by decide) ?_
          exact ih15 (p1 + 1) (n + 0) (by omega) (by first | exact hz15 | (rw [← hz15]; simp [kLoop, c_1, c_1', c_3, c_4]; done) | (simp [← hz15, kLoop, c_1, c_1', c_3, c_4]; done) | (rw [← hz15]; simp only [kLoop, c_1, c_1', c_3, c_4, eq_self, if_true, if_false, Bool.false_eq_true, decide_true, decide_false, Bool.not_true, Bool.not_false, Bool.false_or, Bool.true_or, Bool.and_true, Bool.true_and, Bool.false_and, Bool.and_false, Bool.or_true, Bool.or_false]; done)) _ _ hW hS ls (lv_sub hl [0, 1, 2, 3] rfl)
        · skip
          refine lv_iconst (v := 1) hx hb dX5_heapOf_36 (by decide) ?_
          refine lv_goto (tgt := 41) hx hb dX5_heapOf_37 (by decide) ?_
          refine lv_iadd hx hb dX5_heapOf_41 ?_
          refine lv_istore_n (lv' := [(2, .int (n + 1)), (3, .int (nI p1)), (0, .ref (ad 13 0)), (1, .int (nI q))]) hx hb dX5_heapOf_42 rfl hl (by decide) rfl (fun ls hl => ?_)
          refine lv_iinc (v := nI (p1 + 1)) (lv' := [(3, .int (nI (p1 + 1))), (2, .int (n + 1)), (0, .ref (ad 13 0)), (1, .int (nI q))]) hx hb dX5_heapOf_43 hl (k := 1) rfl (nI_1 p1) (by decide) rfl (fun ls hl => ?_)
          refine lv_goto (tgt := 15) hx hb dX5_heapOf_46 (by decide) ?_
          exact ih15 (p1 + 1) (n + 1) (by omega) (by first | exact hz15 | (rw [← hz15]; simp [kLoop, c_1, c_1', c_3, c_4]; done) | (simp [← hz15, kLoop, c_1, c_1', c_3, c_4]; done) | (rw [← hz15]; simp only [kLoop, c_1, c_1', c_3, c_4, eq_self, if_true, if_false, Bool.false_eq_true, decide_true, decide_false, Bool.not_true, Bool.not_false, Bool.false_or, Bool.true_or, Bool.and_true, Bool.true_and, Bool.false_and, Bool.and_false, Bool.or_true, Bool.or_false]; done)) _ _ hW hS ls (lv_sub hl [0, 1, 2, 3] rfl)
    exact loop15 h9 0 0 (by omega) (by unfold mHeapOf; rw [if_neg c_1', eh9, nI_clamp (by omega)]) _ _ hW hS ls (lv_sub hl [0, 1, 2, 3] rfl)
  · skip
    have c_1' : I 44 0 q < 0 := Int32.not_le.mp c_1
    refine lv_iconst (v := (-1)) hx hb dX5_heapOf_9 (by decide) ?_
    exact w_iret X hr hlk hS (by first | rfl | (simp [mHeapOf, c_1, c_1']; done) | (simp [mHeapOf, c_1, c_1']; rfl)) hW dX5_heapOf_10
set_option maxHeartbeats 1200000 in
set_option maxRecDepth 100000 in
theorem m_X5_helpOf (l : Launch) (G : k_G) (ad : Nat → Nat → Nat) (nA nK : Nat) (mA mK : Nat) (E : Nat → Nat) (I : k_I) (J : k_J) (q : Nat) (hs : m_S mA mK E I) (hq : q < mK) : k_Met l yX5_helpOf cX5_helpOf 3 (some FieldType.int) { frames := 4, cells := 0, slots := 0, locals := 97 } G [.ref (ad 13 0), .int (nI q)] (Wd G ad nA nK I J) (some (.int (mHelp mA I J q))) (Wd G ad nA nK I J) 0 0 := by
  refine k_body (by decide) (Nat.le_of_ble_eq_true rfl) ?_
  intro p e s m below meth c ls X hr hlk hnm hW hS hl
  have hx := X.1.1
  have hb := X.1.2.1
  have hG := X.1.2.2.2.2
  have hA24 := hs.2.2.1
  have hK30 := hs.2.2.2.1
  have hl : lv_has ls 3 [(0, .ref (ad 13 0)), (1, .int (nI q))] := hl
  refine lv_iconst (v := 0) hx hb dX5_helpOf_0 (by decide) ?_
  refine lv_istore_n (lv' := [(2, .int 0), (0, .ref (ad 13 0)), (1, .int (nI q))]) hx hb dX5_helpOf_1 rfl hl (by decide) rfl (fun ls hl => ?_)
  have loop2 : ∀ (d j : Nat), j + d = 40 → (kFindI (fun w => !decide (mFinds mA I J (J 37 0 q ||| (1 <<< (Int32.toInt64 (nI w) &&& 63))) q ≤ 0)) d j = mHelp mA I J q) → ∀ (H : Heap) (locs : List Loc), Wd G ad nA nK I J H → va_S (k_A G) s.heap H locs → ∀ ls : Array Slot, lv_has ls 3 [(2, .int (nI j)), (0, .ref (ad 13 0)), (1, .int (nI q))] → W p l e { frames := 4, cells := 0, slots := 0, locals := 97 } s m ([.ref (ad 13 0), .int (nI q)] : List Value).toArray below meth c H locs 0 0 (MQ below (k_Q G (some (.int (mHelp mA I J q))) (Wd G ad nA nK I J)) ([.ref (ad 13 0), .int (nI q)] : List Value).toArray s 0 0 (k_A G)) (F0 m 2 ls []) := by
    intro d
    induction d with
    | zero =>
      intro j hi2 hz2  H locs hW hS ls hl
      refine lv_iload_n hx hb dX5_helpOf_2 rfl (lv_at hl 0 rfl) ?_
      refine lv_bipush (v := 40) hx hb dX5_helpOf_3 (by decide) ?_
      refine lv_icmp_ge (tgt := 34) hx hb dX5_helpOf_5 (by decide) (fun _ => ?_) (fun c_1 => absurd (nI_le (a := 40) (b := j) (by omega) (by omega)) c_1)
      refine lv_iconst (v := (-1)) hx hb dX5_helpOf_34 (by decide) ?_
      exact w_iret X hr hlk hS (by first | exact hz2 | (rw [← hz2]; simp [kFindI]; done) | (simp [← hz2, kFindI]; done) | (rw [← hz2]; simp only [kFindI, eq_self, if_true, if_false, Bool.false_eq_true, decide_true, decide_false, Bool.not_true, Bool.not_false, Bool.false_or, Bool.true_or, Bool.and_true, Bool.true_and, Bool.false_and, Bool.and_false, Bool.or_true, Bool.or_false]; done) | (simp [kFindI]; done)) hW dX5_helpOf_35
    | succ d ih =>
      intro j hi2 hz2  H locs hW hS ls hl
      have hlt2 : j < 40 := by omega
      have ih2 := ih
      refine lv_iload_n hx hb dX5_helpOf_2 rfl (lv_at hl 0 rfl) ?_
      refine lv_bipush (v := 40) hx hb dX5_helpOf_3 (by decide) ?_
      refine lv_icmp_ge (tgt := 34) hx hb dX5_helpOf_5 (by decide) (fun c_2 => absurd c_2 (nI_ge (a := j) (b := 40) (by omega) (by omega))) (fun _ => ?_)
      refine lv_aload_n hx hb dX5_helpOf_8 rfl (lv_at hl 1 rfl) ?_
      refine lv_aload_n hx hb dX5_helpOf_9 rfl (lv_at hl 1 rfl) ?_
      refine w_get X hW 13 0 Nat.zero_lt_one rfl rfl inG5 17 (by decide) g515 rfl dX5_helpOf_10 ?_
      refine lv_iload_n hx hb dX5_helpOf_13 rfl (lv_at hl 2 rfl) ?_
      refine w_laldN (i := q) X hW 37 0 Nat.zero_lt_one rfl (by omega) dX5_helpOf_14 ?_
      refine lv_lconst (v := 1) hx hb dX5_helpOf_15 (by decide) ?_
      refine lv_iload_n hx hb dX5_helpOf_16 rfl (lv_at hl 0 rfl) ?_
      refine lv_lshl (v := 1 <<< (Int32.toInt64 (nI j) &&& 63)) hx hb dX5_helpOf_17 rfl ?_
      refine lv_lor hx hb dX5_helpOf_18 ?_
      refine lv_iload_n hx hb dX5_helpOf_19 rfl (lv_at hl 2 rfl) ?_
      refine w_cV1 X hS (m_X5_findsWith l G ad nA nK mA mK E I J ((J 37 0 q) ||| (1 <<< (Int32.toInt64 (nI j) &&& 63))) q hs (by first | assumption | omega)) rfl rfl g754 g4 g751 g753 p47 hd_X5_findsWith ⟨Nat.le_of_ble_eq_true rfl, Nat.le_of_ble_eq_true rfl⟩ (k_rec X hW 13 0 Nat.zero_lt_one rfl rfl) hW hl.1 rfl (Nat.le_of_ble_eq_true rfl) dX5_helpOf_20 (Nat.zero_le _) (Nat.zero_le _) (fun H locs hW hS => ?_)
      refine lv_if_le (tgt := 28) hx hb dX5_helpOf_23 (by decide) (fun c_3 => ?_) (fun c_3 => ?_)
      · skip
        refine lv_iinc (v := nI (j + 1)) (lv' := [(2, .int (nI (j + 1))), (0, .ref (ad 13 0)), (1, .int (nI q))]) hx hb dX5_helpOf_28 hl (k := 0) rfl (nI_1 j) (by decide) rfl (fun ls hl => ?_)
        refine lv_goto (tgt := 2) hx hb dX5_helpOf_31 (by decide) ?_
        exact ih2 (j + 1) (by omega) (by first | exact hz2 | (rw [← hz2]; simp [kFindI, c_3]; done) | (simp [← hz2, kFindI, c_3]; done) | (rw [← hz2]; simp only [kFindI, c_3, eq_self, if_true, if_false, Bool.false_eq_true, decide_true, decide_false, Bool.not_true, Bool.not_false, Bool.false_or, Bool.true_or, Bool.and_true, Bool.true_and, Bool.false_and, Bool.and_false, Bool.or_true, Bool.or_false]; done)) _ _ hW hS ls (lv_sub hl [0, 1, 2] rfl)
      · skip
        refine lv_iload_n hx hb dX5_helpOf_26 rfl (lv_at hl 0 rfl) ?_
        exact w_iret X hr hlk hS (by first | exact hz2 | (rw [← hz2]; simp [kFindI, c_3]; done) | (simp [← hz2, kFindI, c_3]; done) | (rw [← hz2]; simp only [kFindI, c_3, eq_self, if_true, if_false, Bool.false_eq_true, decide_true, decide_false, Bool.not_true, Bool.not_false, Bool.false_or, Bool.true_or, Bool.and_true, Bool.true_and, Bool.false_and, Bool.and_false, Bool.or_true, Bool.or_false]; done) | (simp [kFindI, c_3]; done)) hW dX5_helpOf_27
  exact loop2 40 0 (by omega) rfl _ _ hW hS ls (lv_sub hl [0, 1, 2] rfl)
set_option maxHeartbeats 1200000 in
set_option maxRecDepth 100000 in
theorem m_X5_asked (l : Launch) (G : k_G) (ad : Nat → Nat → Nat) (nA nK : Nat) (mA mK : Nat) (E : Nat → Nat) (I : k_I) (J : k_J) (k : Int32) (w : Int32) (hs : m_S mA mK E I) : k_Met l yX5_asked cX5_asked 3 (some FieldType.int) { frames := 5, cells := 0, slots := 0, locals := 120 } G [.ref (ad 13 0), .int k, .int w] (Wd G ad nA nK I J) (some (.int ((mcAsked E mA mK k w (I, J)).1))) (Wd G ad nA nK ((mcAsked E mA mK k w (I, J)).2.1) ((mcAsked E mA mK k w (I, J)).2.2)) 0 0 := by
  refine k_body (by decide) (Nat.le_of_ble_eq_true rfl) ?_
  intro p e s m below meth c ls X hr hlk hnm hW hS hl
  have hx := X.1.1
  have hb := X.1.2.1
  have hG := X.1.2.2.2.2
  have hA24 := hs.2.2.1
  have hK30 := hs.2.2.2.1
  have hl : lv_has ls 3 [(0, .ref (ad 13 0)), (1, .int k), (2, .int w)] := hl
  refine lv_aload_n hx hb dX5_asked_0 rfl (lv_at hl 0 rfl) ?_
  refine lv_iload_n hx hb dX5_asked_1 rfl (lv_at hl 1 rfl) ?_
  refine w_cV1 X hS (m_X5_isAsk l G ad nA nK mA mK E I J k hs) rfl rfl g724 g4 g721 g723 p42 hd_X5_isAsk ⟨Nat.le_of_ble_eq_true rfl, Nat.le_of_ble_eq_true rfl⟩ (k_rec X hW 13 0 Nat.zero_lt_one rfl rfl) hW hl.1 rfl (Nat.le_of_ble_eq_true rfl) dX5_asked_2 (Nat.zero_le _) (Nat.zero_le _) (fun H locs hW hS => ?_)
  refine lb_if_ne (tgt := 12) hx hb dX5_asked_5 (by decide) (fun c_1 => ?_) (fun c_1 => ?_)
  · skip
    obtain ⟨i2, hi2, rfl⟩ := mIs_nat (by omega) c_1
    have hk2 : kAns mK (nI i2) = some i2 := kAns_lt hi2 (by omega)
    have hl : lv_has ls 3 [(0, .ref (ad 13 0)), (1, .int (nI i2)), (2, .int w)] := hl
    refine lv_iload_n hx hb dX5_asked_12 rfl (lv_at hl 2 rfl) ?_
    refine lv_i2l (v := Int32.toInt64 w) hx hb dX5_asked_13 rfl ?_
    refine lv_lconst (v := 0) hx hb dX5_asked_14 (by decide) ?_
    refine lv_ldc2 hx hb X.1.2.2.2.1 (hG _ g689) dX5_asked_15 ?_
    refine w_cS1 X hS (m_X5_in l G (Wd G ad nA nK I J) (Int32.toInt64 w) 0 3 ) rfl rfl g583 g4 g581 g582 hd_X5_in ⟨Nat.le_of_ble_eq_true rfl, Nat.le_of_ble_eq_true rfl⟩ hW hl.1 rfl (Nat.le_of_ble_eq_true rfl) dX5_asked_18 (Nat.zero_le _) (Nat.zero_le _) (fun H locs hW hS => ?_)
    refine lb_if_ne (tgt := 28) hx hb dX5_asked_21 (by decide) (fun c_3 => ?_) (fun c_3 => ?_)
    · skip
      refine lv_aload_n hx hb dX5_asked_28 rfl (lv_at hl 0 rfl) ?_
      refine w_cVv X hS (m_X5_findHeaps l G ad nA nK mA mK E I J  hs) rfl rfl g750 g4 g747 g749 p46 hd_X5_findHeaps ⟨Nat.le_of_ble_eq_true rfl, Nat.le_of_ble_eq_true rfl⟩ (k_rec X hW 13 0 Nat.zero_lt_one rfl rfl) hW hl.1 rfl (Nat.le_of_ble_eq_true rfl) dX5_asked_29 (Nat.zero_le _) (Nat.zero_le _) (fun H locs hW hS => ?_)
      obtain ⟨I4, eI4⟩ : ∃ z, z = (mFH E mA mK (I, J)).1 := ⟨_, rfl⟩
      rw [← eI4] at hW
      have hs4 : m_S mA mK E I4 := by rw [eI4]; exact (mFH_S (s := (I, J)) hs)
      obtain ⟨J4, eJ4⟩ : ∃ z, z = (mFH E mA mK (I, J)).2 := ⟨_, rfl⟩
      rw [← eJ4] at hW
      have hH9 : m_H mK I4 := by rw [eI4]; exact mFH_H hK30
      refine lv_iload_n hx hb dX5_asked_32 rfl (lv_at hl 2 rfl) ?_
      rcases k_sw0_2 w with c_5 | c_5 | c_5 | c_5
      · skip
        subst c_5
        refine lv_tableIn (tgt := 60) hx hb dX5_asked_33 (by decide) (by decide) rfl (by decide) ?_
        refine lv_aload_n hx hb dX5_asked_60 rfl (lv_at hl 0 rfl) ?_
        refine w_get X hW 13 0 Nat.zero_lt_one rfl rfl inG5 24 (by decide) g522 rfl dX5_asked_61 ?_
        refine lv_iload_n hx hb dX5_asked_64 rfl (lv_at hl 1 rfl) ?_
        refine w_ialdN (i := i2) X hW 44 0 Nat.zero_lt_one rfl (by omega) dX5_asked_65 ?_
        refine lv_if_lt (tgt := 73) hx hb dX5_asked_66 (by decide) (fun c_6 => ?_) (fun c_6 => ?_)
        · skip
          refine lv_iconst (v := 0) hx hb dX5_asked_73 (by decide) ?_
          exact w_iret X hr hlk hS (by subst eJ4 eI4; first | (simp [mcAsked, mAskV, mIn, c_1, hk2, c_6]; done) | (simp [mcAsked, mAskV, mIn, c_1, hk2, c_6]; rfl)) (hW.to (by subst eJ4 eI4; simp [mcAsked, mIn, c_1, hk2, c_6]) (by subst eJ4 eI4; simp [mcAsked, mIn, c_1, hk2, c_6])) dX5_asked_74
        · skip
          refine lv_iconst (v := 1) hx hb dX5_asked_69 (by decide) ?_
          refine lv_goto (tgt := 74) hx hb dX5_asked_70 (by decide) ?_
          exact w_iret X hr hlk hS (by subst eJ4 eI4; first | (simp [mcAsked, mAskV, mIn, c_1, hk2, c_6]; done) | (simp [mcAsked, mAskV, mIn, c_1, hk2, c_6]; rfl)) (hW.to (by subst eJ4 eI4; simp [mcAsked, mIn, c_1, hk2, c_6]) (by subst eJ4 eI4; simp [mcAsked, mIn, c_1, hk2, c_6])) dX5_asked_74
      · skip
        subst c_5
        refine lv_tableIn (tgt := 75) hx hb dX5_asked_33 (by decide) (by decide) rfl (by decide) ?_
        refine lv_aload_n hx hb dX5_asked_75 rfl (lv_at hl 0 rfl) ?_
        refine lv_iload_n hx hb dX5_asked_76 rfl (lv_at hl 1 rfl) ?_
        refine w_cV1 X hS (m_X5_heapOf l G ad nA nK mA mK E I4 J4 i2 hs4 (by first | assumption | omega) (by first | assumption | omega)) rfl rfl g758 g4 g755 g757 p48 hd_X5_heapOf ⟨Nat.le_of_ble_eq_true rfl, Nat.le_of_ble_eq_true rfl⟩ (k_rec X hW 13 0 Nat.zero_lt_one rfl rfl) hW hl.1 rfl (Nat.le_of_ble_eq_true rfl) dX5_asked_77 (Nat.zero_le _) (Nat.zero_le _) (fun H locs hW hS => ?_)
        exact w_iret X hr hlk hS (by subst eJ4 eI4; first | (simp [mcAsked, mAskV, mIn, c_1, hk2]; done) | (simp [mcAsked, mAskV, mIn, c_1, hk2]; rfl)) (hW.to (by subst eJ4 eI4; simp [mcAsked, mIn, c_1, hk2]) (by subst eJ4 eI4; simp [mcAsked, mIn, c_1, hk2])) dX5_asked_80
      · skip
        subst c_5
        refine lv_tableIn (tgt := 81) hx hb dX5_asked_33 (by decide) (by decide) rfl (by decide) ?_
        refine lv_aload_n hx hb dX5_asked_81 rfl (lv_at hl 0 rfl) ?_
        refine w_get X hW 13 0 Nat.zero_lt_one rfl rfl inG5 24 (by decide) g522 rfl dX5_asked_82 ?_
        refine lv_iload_n hx hb dX5_asked_85 rfl (lv_at hl 1 rfl) ?_
        refine w_ialdN (i := i2) X hW 44 0 Nat.zero_lt_one rfl (by omega) dX5_asked_86 ?_
        refine lv_if_lt (tgt := 98) hx hb dX5_asked_87 (by decide) (fun c_7 => ?_) (fun c_7 => ?_)
        · skip
          refine lv_iconst (v := (-1)) hx hb dX5_asked_98 (by decide) ?_
          exact w_iret X hr hlk hS (by subst eJ4 eI4; first | (simp [mcAsked, mAskV, mIn, c_1, hk2, c_7]; done) | (simp [mcAsked, mAskV, mIn, c_1, hk2, c_7]; rfl)) (hW.to (by subst eJ4 eI4; simp [mcAsked, mIn, c_1, hk2, c_7]) (by subst eJ4 eI4; simp [mcAsked, mIn, c_1, hk2, c_7])) dX5_asked_99
        · skip
          refine lv_aload_n hx hb dX5_asked_90 rfl (lv_at hl 0 rfl) ?_
          refine lv_iload_n hx hb dX5_asked_91 rfl (lv_at hl 1 rfl) ?_
          refine w_cV1 X hS (m_X5_helpOf l G ad nA nK mA mK E I4 J4 i2 hs4 (by first | assumption | omega)) rfl rfl g762 g4 g759 g761 p49 hd_X5_helpOf ⟨Nat.le_of_ble_eq_true rfl, Nat.le_of_ble_eq_true rfl⟩ (k_rec X hW 13 0 Nat.zero_lt_one rfl rfl) hW hl.1 rfl (Nat.le_of_ble_eq_true rfl) dX5_asked_92 (Nat.zero_le _) (Nat.zero_le _) (fun H locs hW hS => ?_)
          refine lv_goto (tgt := 99) hx hb dX5_asked_95 (by decide) ?_
          exact w_iret X hr hlk hS (by subst eJ4 eI4; first | (simp [mcAsked, mAskV, mIn, c_1, hk2, c_7]; done) | (simp [mcAsked, mAskV, mIn, c_1, hk2, c_7]; rfl)) (hW.to (by subst eJ4 eI4; simp [mcAsked, mIn, c_1, hk2, c_7]) (by subst eJ4 eI4; simp [mcAsked, mIn, c_1, hk2, c_7])) dX5_asked_99
      · skip
        refine lv_tableOut (tgt := 100) hx hb dX5_asked_33 c_5 (by decide) ?_
        have c_5_0 : ¬ w = 0 := fun h => by rw [h] at c_5; revert c_5; decide
        have c_5_1 : ¬ w = 1 := fun h => by rw [h] at c_5; revert c_5; decide
        have c_5_2 : ¬ w = 2 := fun h => by rw [h] at c_5; revert c_5; decide
        refine lv_aload_n hx hb dX5_asked_100 rfl (lv_at hl 0 rfl) ?_
        refine lv_aload_n hx hb dX5_asked_101 rfl (lv_at hl 0 rfl) ?_
        refine w_get X hW 13 0 Nat.zero_lt_one rfl rfl inG5 17 (by decide) g515 rfl dX5_asked_102 ?_
        refine lv_iload_n hx hb dX5_asked_105 rfl (lv_at hl 1 rfl) ?_
        refine w_laldN (i := i2) X hW 37 0 Nat.zero_lt_one rfl (by omega) dX5_asked_106 ?_
        refine lv_iload_n hx hb dX5_asked_107 rfl (lv_at hl 1 rfl) ?_
        refine w_cV1 X hS (m_X5_findsWith l G ad nA nK mA mK E I4 J4 (J4 37 0 i2) i2 hs4 (by first | assumption | omega)) rfl rfl g754 g4 g751 g753 p47 hd_X5_findsWith ⟨Nat.le_of_ble_eq_true rfl, Nat.le_of_ble_eq_true rfl⟩ (k_rec X hW 13 0 Nat.zero_lt_one rfl rfl) hW hl.1 rfl (Nat.le_of_ble_eq_true rfl) dX5_asked_108 (Nat.zero_le _) (Nat.zero_le _) (fun H locs hW hS => ?_)
        exact w_iret X hr hlk hS (by first | rfl | (simp [mcAsked, mAskV, c_1, hk2, c_3, c_5_0, c_5_1, c_5_2, eI4, eJ4]; done) | (subst eJ4 eI4; simp [mcAsked, mAskV, c_1, hk2, c_3, c_5_0, c_5_1, c_5_2]; done) | (simp [mcAsked, mAskV, c_1, hk2, c_3, c_5_0, c_5_1, c_5_2, eI4, eJ4]; rfl)) (hW.to (by first | rfl | (subst eJ4 eI4; simp [mcAsked, mAskV, c_1, hk2, c_3, c_5_0, c_5_1, c_5_2]; done) | (subst eJ4 eI4; rfl) | (subst eJ4 eI4; simp [mcAsked, mAskV, c_1, hk2, c_3, c_5_0, c_5_1, c_5_2]; done) | (subst eJ4 eI4; simp [mcAsked, mAskV, c_1, hk2, c_3, c_5_0, c_5_1, c_5_2]; rfl) | (simp [mcAsked, mAskV, c_1, hk2, c_3, c_5_0, c_5_1, c_5_2, eI4, eJ4]; done)) (by first | rfl | (subst eJ4 eI4; simp [mcAsked, mAskV, c_1, hk2, c_3, c_5_0, c_5_1, c_5_2]; done) | (subst eJ4 eI4; rfl) | (subst eJ4 eI4; simp [mcAsked, mAskV, c_1, hk2, c_3, c_5_0, c_5_1, c_5_2]; done) | (subst eJ4 eI4; simp [mcAsked, mAskV, c_1, hk2, c_3, c_5_0, c_5_1, c_5_2]; rfl) | (simp [mcAsked, mAskV, c_1, hk2, c_3, c_5_0, c_5_1, c_5_2, eI4, eJ4]; done))) dX5_asked_111
    · skip
      refine lv_sipush (v := (-1002)) hx hb dX5_asked_24 (by decide) ?_
      exact w_iret X hr hlk hS (by first | rfl | (simp [mcAsked, mAskV, c_1, hk2, c_3]; done) | (simp [mcAsked, mAskV, c_1, hk2, c_3]; rfl)) (hW.to (by first | rfl | (simp [mcAsked, mAskV, c_1, hk2, c_3]; done)) (by first | rfl | (simp [mcAsked, mAskV, c_1, hk2, c_3]; done))) dX5_asked_27
  · skip
    have hk8 : kAns mK k = none := mIs_none (by omega) c_1
    refine lv_sipush (v := (-1001)) hx hb dX5_asked_8 (by decide) ?_
    exact w_iret X hr hlk hS (by first | rfl | (simp [mcAsked, mAskV, c_1, hk8]; done) | (simp [mcAsked, mAskV, c_1, hk8]; rfl)) (hW.to (by first | rfl | (simp [mcAsked, mAskV, c_1, hk8]; done)) (by first | rfl | (simp [mcAsked, mAskV, c_1, hk8]; done))) dX5_asked_11
set_option maxHeartbeats 1200000 in
set_option maxRecDepth 100000 in
theorem m_X5_counted (l : Launch) (G : k_G) (ad : Nat → Nat → Nat) (nA nK : Nat) (mA mK : Nat) (E : Nat → Nat) (I : k_I) (J : k_J) (a : Nat) (w : Int32) (hs : m_S mA mK E I) (ha : a < mA) : k_Met l yX5_counted cX5_counted 4 (some FieldType.int) { frames := 0, cells := 0, slots := 0, locals := 0 } G [.ref (ad 13 0), .int (nI a), .int w] (Wd G ad nA nK I J) (some (.int (mCounted I a w))) (Wd G ad nA nK I J) 0 0 := by
  refine k_body (by decide) (Nat.le_of_ble_eq_true rfl) ?_
  intro p e s m below meth c ls X hr hlk hnm hW hS hl
  have hx := X.1.1
  have hb := X.1.2.1
  have hG := X.1.2.2.2.2
  have hA24 := hs.2.2.1
  have hK30 := hs.2.2.2.1
  have hl : lv_has ls 4 [(0, .ref (ad 13 0)), (1, .int (nI a)), (2, .int w)] := hl
  refine lv_aload_n hx hb dX5_counted_0 rfl (lv_at hl 0 rfl) ?_
  refine w_get X hW 13 0 Nat.zero_lt_one rfl rfl inG5 8 (by decide) g506 rfl dX5_counted_1 ?_
  refine lv_iload_n hx hb dX5_counted_4 rfl (lv_at hl 1 rfl) ?_
  refine w_ialdN (i := a) X hW 28 0 Nat.zero_lt_one rfl (by omega) dX5_counted_5 ?_
  refine lv_if_lt (tgt := 13) hx hb dX5_counted_6 (by decide) (fun c_1 => ?_) (fun c_1 => ?_)
  · skip
    refine lv_iconst (v := 0) hx hb dX5_counted_13 (by decide) ?_
    refine lv_istore_n (lv' := [(3, .int 0), (0, .ref (ad 13 0)), (1, .int (nI a)), (2, .int w)]) hx hb dX5_counted_14 rfl hl (by decide) rfl (fun ls hl => ?_)
    refine lv_iload_n hx hb dX5_counted_15 rfl (lv_at hl 3 rfl) ?_
    refine lv_iconst (v := 1) hx hb dX5_counted_16 (by decide) ?_
    refine lv_icmp_ne (tgt := 33) hx hb dX5_counted_17 (by decide) (fun c_2 => ?_) (fun c_2 => ?_)
    · skip
      refine lv_iload_n hx hb dX5_counted_33 rfl (lv_at hl 3 rfl) ?_
      refine lv_iconst (v := 2) hx hb dX5_counted_34 (by decide) ?_
      refine lv_icmp_ne (tgt := 52) hx hb dX5_counted_35 (by decide) (fun c_3 => ?_) (fun c_3 => ?_)
      · skip
        refine lv_iload_n hx hb dX5_counted_52 rfl (lv_at hl 3 rfl) ?_
        refine lv_iconst (v := 3) hx hb dX5_counted_53 (by decide) ?_
        refine lv_icmp_ne (tgt := 61) hx hb dX5_counted_54 (by decide) (fun c_4 => ?_) (fun c_4 => ?_)
        · skip
          refine lv_iload_n hx hb dX5_counted_61 rfl (lv_at hl 3 rfl) ?_
          refine lv_iconst (v := 4) hx hb dX5_counted_62 (by decide) ?_
          refine lv_icmp_ne (tgt := 83) hx hb dX5_counted_63 (by decide) (fun c_5 => ?_) (fun c_5 => ?_)
          · skip
            refine lv_iconst (v := 0) hx hb dX5_counted_83 (by decide) ?_
            exact w_iret X hr hlk hS (by first | rfl | (simp [mCounted, c_1, c_2, c_3, c_4, c_5]; done) | (simp [mCounted, c_1, c_2, c_3, c_4, c_5]; rfl)) hW dX5_counted_84
          · skip
            refine lv_iload_n hx hb dX5_counted_66 rfl (lv_at hl 0 rfl) ?_
            refine lv_if_ne (tgt := 83) hx hb dX5_counted_67 (by decide) (fun c_6 => absurd (by decide) c_6) (fun _ => ?_)
            refine lv_aload_n hx hb dX5_counted_70 rfl (lv_at hl 1 rfl) ?_
            refine w_get X hW 13 0 Nat.zero_lt_one rfl rfl inG5 23 (by decide) g521 rfl dX5_counted_71 ?_
            refine lv_iload_n hx hb dX5_counted_74 rfl (lv_at hl 2 rfl) ?_
            refine w_zaldN (i := a) X hW 43 0 Nat.zero_lt_one rfl (by omega) dX5_counted_75 ?_
            refine lv_if_eq (tgt := 83) hx hb dX5_counted_76 (by decide) (fun c_7 => ?_) (fun c_7 => ?_)
            · skip
              refine lv_iconst (v := 0) hx hb dX5_counted_83 (by decide) ?_
              exact w_iret X hr hlk hS (by first | rfl | (simp [mCounted, c_1, c_2, c_3, c_4, c_5, c_7]; done) | (subst c_5; simp [mCounted, c_1, c_2, c_3, c_4, c_7]; done) | (simp [mCounted, c_1, c_2, c_3, c_4, c_5, c_7]; rfl)) hW dX5_counted_84
            · skip
              refine lv_iconst (v := 1) hx hb dX5_counted_79 (by decide) ?_
              refine lv_goto (tgt := 84) hx hb dX5_counted_80 (by decide) ?_
              exact w_iret X hr hlk hS (by first | rfl | (simp [mCounted, c_1, c_2, c_3, c_4, c_5, c_7]; done) | (subst c_5; simp [mCounted, c_1, c_2, c_3, c_4, c_7]; done) | (simp [mCounted, c_1, c_2, c_3, c_4, c_5, c_7]; rfl)) hW dX5_counted_84
        · skip
          refine lv_iload_n hx hb dX5_counted_57 rfl (lv_at hl 0 rfl) ?_
          refine lv_if_ne (tgt := 79) hx hb dX5_counted_58 (by decide) (fun c_8 => absurd (by decide) c_8) (fun _ => ?_)
          refine lv_iload_n hx hb dX5_counted_61 rfl (lv_at hl 3 rfl) ?_
          refine lv_iconst (v := 4) hx hb dX5_counted_62 (by decide) ?_
          refine lv_icmp_ne (tgt := 83) hx hb dX5_counted_63 (by decide) (fun _ => ?_) (fun c_9 => absurd (c_4.symm.trans c_9) (by decide))
          refine lv_iconst (v := 0) hx hb dX5_counted_83 (by decide) ?_
          exact w_iret X hr hlk hS (by first | rfl | (simp [mCounted, c_1, c_2, c_3, c_4]; done) | (subst c_4; simp [mCounted, c_1, c_2, c_3]; done) | (simp [mCounted, c_1, c_2, c_3, c_4]; rfl)) hW dX5_counted_84
      · skip
        refine lv_iload_n hx hb dX5_counted_38 rfl (lv_at hl 0 rfl) ?_
        refine lv_if_ne (tgt := 52) hx hb dX5_counted_39 (by decide) (fun c_10 => absurd (by decide) c_10) (fun _ => ?_)
        refine lv_aload_n hx hb dX5_counted_42 rfl (lv_at hl 1 rfl) ?_
        refine w_get X hW 13 0 Nat.zero_lt_one rfl rfl inG5 7 (by decide) g505 rfl dX5_counted_43 ?_
        refine lv_iload_n hx hb dX5_counted_46 rfl (lv_at hl 2 rfl) ?_
        refine w_ialdN (i := a) X hW 27 0 Nat.zero_lt_one rfl (by omega) dX5_counted_47 ?_
        refine lv_iconst (v := 1) hx hb dX5_counted_48 (by decide) ?_
        refine lv_icmp_eq (tgt := 79) hx hb dX5_counted_49 (by decide) (fun c_11 => ?_) (fun c_11 => ?_)
        · skip
          refine lv_iconst (v := 1) hx hb dX5_counted_79 (by decide) ?_
          refine lv_goto (tgt := 84) hx hb dX5_counted_80 (by decide) ?_
          exact w_iret X hr hlk hS (by first | rfl | (simp [mCounted, c_1, c_2, c_3, c_11]; done) | (subst c_3; simp [mCounted, c_1, c_2, c_11]; done) | (simp [mCounted, c_1, c_2, c_3, c_11]; rfl)) hW dX5_counted_84
        · skip
          refine lv_iload_n hx hb dX5_counted_52 rfl (lv_at hl 3 rfl) ?_
          refine lv_iconst (v := 3) hx hb dX5_counted_53 (by decide) ?_
          refine lv_icmp_ne (tgt := 61) hx hb dX5_counted_54 (by decide) (fun _ => ?_) (fun c_12 => absurd (c_3.symm.trans c_12) (by decide))
          refine lv_iload_n hx hb dX5_counted_61 rfl (lv_at hl 3 rfl) ?_
          refine lv_iconst (v := 4) hx hb dX5_counted_62 (by decide) ?_
          refine lv_icmp_ne (tgt := 83) hx hb dX5_counted_63 (by decide) (fun _ => ?_) (fun c_13 => absurd (c_3.symm.trans c_13) (by decide))
          refine lv_iconst (v := 0) hx hb dX5_counted_83 (by decide) ?_
          exact w_iret X hr hlk hS (by first | rfl | (simp [mCounted, c_1, c_2, c_3, c_11]; done) | (subst c_3; simp [mCounted, c_1, c_2, c_11]; done) | (simp [mCounted, c_1, c_2, c_3, c_11]; rfl)) hW dX5_counted_84
    · skip
      refine lv_iload_n hx hb dX5_counted_20 rfl (lv_at hl 0 rfl) ?_
      refine lv_if_ne (tgt := 33) hx hb dX5_counted_21 (by decide) (fun c_14 => absurd (by decide) c_14) (fun _ => ?_)
      refine lv_aload_n hx hb dX5_counted_24 rfl (lv_at hl 1 rfl) ?_
      refine w_get X hW 13 0 Nat.zero_lt_one rfl rfl inG5 7 (by decide) g505 rfl dX5_counted_25 ?_
      refine lv_iload_n hx hb dX5_counted_28 rfl (lv_at hl 2 rfl) ?_
      refine w_ialdN (i := a) X hW 27 0 Nat.zero_lt_one rfl (by omega) dX5_counted_29 ?_
      refine lv_if_eq (tgt := 79) hx hb dX5_counted_30 (by decide) (fun c_15 => ?_) (fun c_15 => ?_)
      · skip
        refine lv_iconst (v := 1) hx hb dX5_counted_79 (by decide) ?_
        refine lv_goto (tgt := 84) hx hb dX5_counted_80 (by decide) ?_
        exact w_iret X hr hlk hS (by first | rfl | (simp [mCounted, c_1, c_2, c_15]; done) | (subst c_2; simp [mCounted, c_1, c_15]; done) | (simp [mCounted, c_1, c_2, c_15]; rfl)) hW dX5_counted_84
      · skip
        refine lv_iload_n hx hb dX5_counted_33 rfl (lv_at hl 3 rfl) ?_
        refine lv_iconst (v := 2) hx hb dX5_counted_34 (by decide) ?_
        refine lv_icmp_ne (tgt := 52) hx hb dX5_counted_35 (by decide) (fun _ => ?_) (fun c_16 => absurd (c_2.symm.trans c_16) (by decide))
        refine lv_iload_n hx hb dX5_counted_52 rfl (lv_at hl 3 rfl) ?_
        refine lv_iconst (v := 3) hx hb dX5_counted_53 (by decide) ?_
        refine lv_icmp_ne (tgt := 61) hx hb dX5_counted_54 (by decide) (fun _ => ?_) (fun c_17 => absurd (c_2.symm.trans c_17) (by decide))
        refine lv_iload_n hx hb dX5_counted_61 rfl (lv_at hl 3 rfl) ?_
        refine lv_iconst (v := 4) hx hb dX5_counted_62 (by decide) ?_
        refine lv_icmp_ne (tgt := 83) hx hb dX5_counted_63 (by decide) (fun _ => ?_) (fun c_18 => absurd (c_2.symm.trans c_18) (by decide))
        refine lv_iconst (v := 0) hx hb dX5_counted_83 (by decide) ?_
        exact w_iret X hr hlk hS (by first | rfl | (simp [mCounted, c_1, c_2, c_15]; done) | (subst c_2; simp [mCounted, c_1, c_15]; done) | (simp [mCounted, c_1, c_2, c_15]; rfl)) hW dX5_counted_84
  · skip
    refine lv_iconst (v := 1) hx hb dX5_counted_9 (by decide) ?_
    refine lv_goto (tgt := 14) hx hb dX5_counted_10 (by decide) ?_
    refine lv_istore_n (lv' := [(3, .int 1), (0, .ref (ad 13 0)), (1, .int (nI a)), (2, .int w)]) hx hb dX5_counted_14 rfl hl (by decide) rfl (fun ls hl => ?_)
    refine lv_iload_n hx hb dX5_counted_15 rfl (lv_at hl 3 rfl) ?_
    refine lv_iconst (v := 1) hx hb dX5_counted_16 (by decide) ?_
    refine lv_icmp_ne (tgt := 33) hx hb dX5_counted_17 (by decide) (fun c_19 => ?_) (fun c_19 => ?_)
    · skip
      refine lv_iload_n hx hb dX5_counted_33 rfl (lv_at hl 3 rfl) ?_
      refine lv_iconst (v := 2) hx hb dX5_counted_34 (by decide) ?_
      refine lv_icmp_ne (tgt := 52) hx hb dX5_counted_35 (by decide) (fun c_20 => ?_) (fun c_20 => ?_)
      · skip
        refine lv_iload_n hx hb dX5_counted_52 rfl (lv_at hl 3 rfl) ?_
        refine lv_iconst (v := 3) hx hb dX5_counted_53 (by decide) ?_
        refine lv_icmp_ne (tgt := 61) hx hb dX5_counted_54 (by decide) (fun c_21 => ?_) (fun c_21 => ?_)
        · skip
          refine lv_iload_n hx hb dX5_counted_61 rfl (lv_at hl 3 rfl) ?_
          refine lv_iconst (v := 4) hx hb dX5_counted_62 (by decide) ?_
          refine lv_icmp_ne (tgt := 83) hx hb dX5_counted_63 (by decide) (fun c_22 => ?_) (fun c_22 => ?_)
          · skip
            refine lv_iconst (v := 0) hx hb dX5_counted_83 (by decide) ?_
            exact w_iret X hr hlk hS (by first | rfl | (simp [mCounted, c_1, c_19, c_20, c_21, c_22]; done) | (simp [mCounted, c_1, c_19, c_20, c_21, c_22]; rfl)) hW dX5_counted_84
          · skip
            refine lv_iload_n hx hb dX5_counted_66 rfl (lv_at hl 0 rfl) ?_
            refine lv_if_ne (tgt := 83) hx hb dX5_counted_67 (by decide) (fun _ => ?_) (fun c_23 => absurd c_23 (by decide))
            refine lv_iconst (v := 0) hx hb dX5_counted_83 (by decide) ?_
            exact w_iret X hr hlk hS (by first | rfl | (simp [mCounted, c_1, c_19, c_20, c_21, c_22]; done) | (subst c_22; simp [mCounted, c_1, c_19, c_20, c_21]; done) | (simp [mCounted, c_1, c_19, c_20, c_21, c_22]; rfl)) hW dX5_counted_84
        · skip
          refine lv_iload_n hx hb dX5_counted_57 rfl (lv_at hl 0 rfl) ?_
          refine lv_if_ne (tgt := 79) hx hb dX5_counted_58 (by decide) (fun _ => ?_) (fun c_24 => absurd c_24 (by decide))
          refine lv_iconst (v := 1) hx hb dX5_counted_79 (by decide) ?_
          refine lv_goto (tgt := 84) hx hb dX5_counted_80 (by decide) ?_
          exact w_iret X hr hlk hS (by first | rfl | (simp [mCounted, c_1, c_19, c_20, c_21]; done) | (subst c_21; simp [mCounted, c_1, c_19, c_20]; done) | (simp [mCounted, c_1, c_19, c_20, c_21]; rfl)) hW dX5_counted_84
      · skip
        refine lv_iload_n hx hb dX5_counted_38 rfl (lv_at hl 0 rfl) ?_
        refine lv_if_ne (tgt := 52) hx hb dX5_counted_39 (by decide) (fun _ => ?_) (fun c_25 => absurd c_25 (by decide))
        refine lv_iload_n hx hb dX5_counted_52 rfl (lv_at hl 3 rfl) ?_
        refine lv_iconst (v := 3) hx hb dX5_counted_53 (by decide) ?_
        refine lv_icmp_ne (tgt := 61) hx hb dX5_counted_54 (by decide) (fun _ => ?_) (fun c_26 => absurd (c_20.symm.trans c_26) (by decide))
        refine lv_iload_n hx hb dX5_counted_61 rfl (lv_at hl 3 rfl) ?_
        refine lv_iconst (v := 4) hx hb dX5_counted_62 (by decide) ?_
        refine lv_icmp_ne (tgt := 83) hx hb dX5_counted_63 (by decide) (fun _ => ?_) (fun c_27 => absurd (c_20.symm.trans c_27) (by decide))
        refine lv_iconst (v := 0) hx hb dX5_counted_83 (by decide) ?_
        exact w_iret X hr hlk hS (by first | rfl | (simp [mCounted, c_1, c_19, c_20]; done) | (subst c_20; simp [mCounted, c_1, c_19]; done) | (simp [mCounted, c_1, c_19, c_20]; rfl)) hW dX5_counted_84
    · skip
      refine lv_iload_n hx hb dX5_counted_20 rfl (lv_at hl 0 rfl) ?_
      refine lv_if_ne (tgt := 33) hx hb dX5_counted_21 (by decide) (fun _ => ?_) (fun c_28 => absurd c_28 (by decide))
      refine lv_iload_n hx hb dX5_counted_33 rfl (lv_at hl 3 rfl) ?_
      refine lv_iconst (v := 2) hx hb dX5_counted_34 (by decide) ?_
      refine lv_icmp_ne (tgt := 52) hx hb dX5_counted_35 (by decide) (fun _ => ?_) (fun c_29 => absurd (c_19.symm.trans c_29) (by decide))
      refine lv_iload_n hx hb dX5_counted_52 rfl (lv_at hl 3 rfl) ?_
      refine lv_iconst (v := 3) hx hb dX5_counted_53 (by decide) ?_
      refine lv_icmp_ne (tgt := 61) hx hb dX5_counted_54 (by decide) (fun _ => ?_) (fun c_30 => absurd (c_19.symm.trans c_30) (by decide))
      refine lv_iload_n hx hb dX5_counted_61 rfl (lv_at hl 3 rfl) ?_
      refine lv_iconst (v := 4) hx hb dX5_counted_62 (by decide) ?_
      refine lv_icmp_ne (tgt := 83) hx hb dX5_counted_63 (by decide) (fun _ => ?_) (fun c_31 => absurd (c_19.symm.trans c_31) (by decide))
      refine lv_iconst (v := 0) hx hb dX5_counted_83 (by decide) ?_
      exact w_iret X hr hlk hS (by first | rfl | (simp [mCounted, c_1, c_19]; done) | (subst c_19; simp [mCounted, c_1]; done) | (simp [mCounted, c_1, c_19]; rfl)) hW dX5_counted_84
