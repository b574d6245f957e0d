/-! move -/
theorem kAns_e {n i : Nat} {a : Int32} (hn : n < 2 ^ 31) (h : kAns n a = some i) : a = nI i := by
  unfold kAns at h
  split at h
  · cases h
  · next h0 =>
    split at h
    · cases h
    · cases h
      obtain ⟨j, hj, rfl⟩ := nI_of h0
      rw [nI_clamp hj]
theorem kLead_v {nA : Nat} {a t : Int32} {I : k_I} : (∀ c, c ≠ 8 → kLead nA a t I c = I c) ∧ (∀ x k, k ≠ 9 → kLead nA a t I 8 x k = I 8 x k) ∧ ∀ b, b < nA → kLead nA a t I 8 b 9 = if I 8 b 9 = a then t else I 8 b 9 := by
  have key := kLoop_i0 (step := fun b I => if I 8 b 9 = a then k_up I 8 b (upd (I 8 b) 9 t) else I) (fun n r => (∀ c, c ≠ 8 → r c = I c) ∧ (∀ x k, k ≠ 9 → r 8 x k = I 8 x k) ∧ (∀ b, b < n → r 8 b 9 = if I 8 b 9 = a then t else I 8 b 9) ∧ ∀ b, n ≤ b → r 8 b 9 = I 8 b 9) nA I ⟨fun _ _ => rfl, fun _ _ _ => rfl, fun b hb => absurd hb (Nat.not_lt_zero _), fun _ _ => rfl⟩ (by
    rintro n r hn ⟨h1, h2, h3, h4⟩
    by_cases hc : r 8 n 9 = a
    · simp only [if_pos hc]
      refine ⟨fun c h8 => (k_up_C h8).trans (h1 c h8), fun x k hk => (up8 hk).trans (h2 x k hk), fun b hb => ?_, fun b hb => ?_⟩
      · rw [up8s]
        by_cases hbn : b = n
        · subst hbn
          rw [if_pos rfl, ← h4 b (Nat.le_refl _), if_pos hc]
        · rw [if_neg hbn]; exact h3 b (by omega)
      · rw [up8s, if_neg (by omega)]; exact h4 b (by omega)
    · simp only [if_neg hc]
      refine ⟨h1, h2, fun b hb => ?_, fun b hb => h4 b (by omega)⟩
      by_cases hbn : b = n
      · subst hbn
        rw [h4 b (Nat.le_refl _)] at hc ⊢
        rw [if_neg hc]
      · exact h3 b (by omega))
  exact ⟨key.1, key.2.1, key.2.2.1⟩
/-- with a lead laid -/
theorem k_Raw.lead {nA nK : Nat} {E E' : Nat → Nat} {I X : k_I} {J Y : k_J} (raw : k_Raw nA nK E I J) (h8 : ∀ x k, k ≠ 9 → X 8 x k = I 8 x k) (hI : ∀ c, c ≠ 8 → c ≠ 28 → c < 39 → X c = I c) (hJ : ∀ c, c < 39 → Y c = J c) (he : ∀ i, i < nA → X 8 i 9 = nI (E' i)) (hr : ∃ r, g_R nA E' (I 35 0) r) : k_Raw nA nK E' X Y := by
  obtain ⟨a1, a2, a3, a4, a5, a6, a7, a8, a9, b1, b2, b3, b4, b5, b6, b7, b8, b9, c1, c2⟩ := raw
  have e27 := hI 27 (by decide) (by decide) (by decide)
  have e35 := hI 35 (by decide) (by decide) (by decide)
  refine ⟨?_, ?_, ?_, ?_, ?_, ?_, ?_, ?_, he, ?_, ?_, ?_, ?_, ?_, ?_, ?_, ?_, ?_, ?_, ?_⟩
  · rw [hI 0 (by decide) (by decide) (by decide), hI 13 (by decide) (by decide) (by decide)]; exact a1
  · rw [hI 0 (by decide) (by decide) (by decide), hI 13 (by decide) (by decide) (by decide)]; exact a2
  · rw [hI 2 (by decide) (by decide) (by decide), hI 20 (by decide) (by decide) (by decide)]; exact a3
  · rw [hI 3 (by decide) (by decide) (by decide), hI 13 (by decide) (by decide) (by decide)]; exact a4
  · rw [hI 4 (by decide) (by decide) (by decide), hI 5 (by decide) (by decide) (by decide), hI 21 (by decide) (by decide) (by decide), hI 22 (by decide) (by decide) (by decide)]; exact a5
  · intro i hi; rw [h8 i 0 (by decide)]; exact a6 i hi
  · intro i hi; rw [h8 i 1 (by decide), e27]; exact a7 i hi
  · intro i hi; rw [h8 i 2 (by decide), hI 30 (by decide) (by decide) (by decide)]; exact a8 i hi
  · intro i hi; rw [h8 i 8 (by decide), hI 34 (by decide) (by decide) (by decide)]; exact b1 i hi
  · rw [hI 10 (by decide) (by decide) (by decide), e35]; exact b2
  · rw [e35]; exact b3
  · rw [e27, e35]; exact b4
  · rw [e27, hJ 8 (by decide), hJ 29 (by decide)]; exact b5
  · rw [e27, hI 9 (by decide) (by decide) (by decide), hI 31 (by decide) (by decide) (by decide)]; exact b6
  · intro i hi; rw [e27, h8 i 6 (by decide), hI 32 (by decide) (by decide) (by decide)]; exact b7 i hi
  · intro i hi; rw [e27, h8 i 7 (by decide), hI 33 (by decide) (by decide) (by decide)]; exact b8 i hi
  · rw [hJ 11 (by decide), hJ 37 (by decide)]; exact b9
  · rw [hI 12 (by decide) (by decide) (by decide), hI 38 (by decide) (by decide) (by decide)]; exact c1
  · rw [e35]; exact hr
theorem kLead_E {nA nK : Nat} {E : Nat → Nat} {I : k_I} (ms : m_S nA nK E I) (he : ∀ i, i < nA → I 8 i 9 = nI (E i)) {d t : Nat} (hd : d < nA) : ∀ b, b < nA → kLead nA (nI d) (nI t) I 8 b 9 = nI (g_E2 E d t b) := by
  intro b hb
  have h24 := ms.2.2.1
  have hE := (ms.2.2.2.2.1 b hb).1
  rw [kLead_v.2.2 b hb, he b hb]
  unfold g_E2
  by_cases hc : E b = d
  · rw [if_pos hc, if_pos (by rw [hc])]
  · rw [if_neg hc, if_neg (fun q => hc ((nI_eq (by omega) (by omega)).mp q))]
theorem RR_move {nA nK : Nat} {E : Nat → Nat} {I : k_I} {J : k_J} (a b : Int32) (h : RR nA nK E I J) : k_St RR nA nK E (cMove nA nK a b (I, J)).2 (cMove nA nK a b (I, J)).1 (mcMove E nA a b (cMove nA nK a b (I, J)).2).1 nA nK (mcMove E nA a b (cMove nA nK a b (I, J)).2).2 := by
  have h24 := h.ms.2.2.1
  unfold cMove mcMove
  cases ha : kAns nA a with
  | none => exact k_St.same h rfl
  | some i =>
    have hi := kAns_b ha
    simp only
    unfold kEnd
    cases hb : kAns nA b with
    | none => exact k_St.same h rfl
    | some j =>
      have hj := kAns_b hb
      obtain ⟨hEj, -⟩ := h.ms.2.2.2.2.1 j hj
      simp only
      rw [h.raw.ends j hj, kAns_nI hEj (by omega)]
      simp only
      simp only [h.moved hi, h.raw.num i hi, h.raw.num _ hEj]
      generalize ht : E j = t at hEj
      by_cases hm : I 28 0 i < 0
      · have hE : E i = i := (h.ms.self hi).mp hm
        simp only [hm, decide_true, Bool.not_true, Bool.false_eq_true, if_false]
        by_cases hti : t = i
        · subst hti
          simp only [if_true, hm]
          exact k_St.same h rfl
        · have hne : ¬ nI t = nI i := fun q => hti ((nI_eq (by omega) (by omega)).mp q)
          simp only [if_neg hne]
          have hbit : I 8 t 12 &&& kBit (nI i) = 0 ↔ ¬ g_U E (I 35 0) t i := by
            rw [b_and_bit _ (by omega), ← h.set.u t hEj i hi, Bool.not_eq_true]
          by_cases hu : g_U E (I 35 0) t i
          · have hc : ¬ I 8 t 12 &&& kBit (nI i) = 0 := fun q => hbit.mp q hu
            simp only [if_neg hc]
            have hmk : ¬ mHP E nA t I 39 0 i = 0 := (mHP_v h.ms h.raw.mr hEj hi).mpr (Or.inr hu)
            simp only [if_pos hm, if_neg hmk]
            exact ⟨h.ms, rfl, E, h.of (fun c hc => mHP_C (by omega)) (fun _ _ => rfl)⟩
          · have hc : I 8 t 12 &&& kBit (nI i) = 0 := hbit.mpr hu
            simp only [if_pos hc]
            unfold cMove2
            simp only
            rw [h.raw.num i hi, h.raw.num t hEj]
            obtain ⟨l1, l2, -⟩ := kLead_v (nA := nA) (a := nI i) (t := nI t) (I := I)
            have l3 := kLead_E h.ms h.raw.ends (t := t) hi
            generalize kLead nA (nI i) (nI t) I = K at l1 l2 l3
            have hK : m_S nA nK E K := h.ms.low (l1 13 (by decide)) (l1 28 (by decide)) (l1 35 (by decide))
            have hs1 : ∀ c, 13 ≤ c → (kSettle nA nK (K, J)).1 c = I c := fun c hc => (kSettle_hi hc).1.trans (l1 c (by omega))
            have hm1 : m_S nA nK E (kSettle nA nK (K, J)).1 := kSettle_mS hK
            have hmk : mHP E nA t (kSettle nA nK (K, J)).1 39 0 i = 0 := by
              refine Classical.byContradiction fun q => ?_
              rcases (mHP_v hm1 (h.raw.mr.of (hs1 27 (by decide)) (hs1 35 (by decide))) hEj hi).mp q with q | q
              · exact hti q.symm
              · rw [hs1 35 (by decide)] at q; exact hu q
            rw [hs1 28 (by decide), if_pos hm, if_pos hmk]
            have hRR : RR nA nK (g_E2 E i t) (mw 28 i (nI j) (mHP E nA t (kSettle nA nK (K, J)).1)) (kSettle nA nK (K, J)).2 := by
              obtain ⟨r, hr⟩ := h.raw.rank
              have hlead := hK.lead hi hj hE (by rw [ht]; exact hti)
              rw [ht] at hlead
              refine RR_late (F := (mw 28 i (nI j) (mHP E nA t (kSettle nA nK (K, J)).1), (kSettle nA nK (K, J)).2)) (K := K) (L := J) (X := mw 28 i (nI j) K) (Y := J) (fun c hc => mw_C (by omega)) (fun _ _ => rfl) (fun c hc => ?_) (fun c h1 h2 => ?_) (fun _ _ => rfl) (fun c hc _ => (kSettle_hi hc).2) ?_ hlead ?_ ?_ ?_ (fun x hx => by
                rw [mwx, l1 28 (by decide)]
                by_cases hxi : x = i
                · rw [if_pos hxi]; exact Or.inr ⟨j, hj, rfl⟩
                · rw [if_neg hxi]; exact h.led x hx)
              · show mw 28 i (nI j) (mHP E nA t (kSettle nA nK (K, J)).1) c = _
                rw [mw_C (by omega), mHP_C (by omega)]
              · exact hi_mw39 (fun c h1 h2 => (mHP_C (by omega)).trans (kSettle_hi h1).1) (by decide) (by decide) c h1 h2
              · exact h.ks.of ((mw_C (by decide)).trans (l1 0 (by decide))) ((mw_C (by decide)).trans (l1 6 (by decide))) ((mw_C (by decide)).trans (l1 7 (by decide)))
              · rw [mw_C (by decide), l1 6 (by decide)]; exact h.z6
              · rw [mw_C (by decide), l1 7 (by decide)]; exact h.z7
              · exact h.raw.lead (fun x k hk => by rw [mw_C (by decide)]; exact l2 x k hk) (fun c h8 h28 _ => (mw_C h28).trans (l1 c h8)) (fun _ _ => rfl) (fun x hx => by rw [mw_C (by decide)]; exact l3 x hx) (g_R_lead h.ms hr hEj hti hu)
            refine ⟨hm1, ?_, g_E2 E i t, hRR⟩
            have hn := hRR.raw.num t hEj
            rw [mw_C (by decide), mHP_C (by decide)] at hn
            exact hn
      · simp only [hm, decide_false, Bool.not_false, if_true, if_false]
        exact k_St.same h rfl
