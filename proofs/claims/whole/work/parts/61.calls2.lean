/-! changed, rule, confirm -/
theorem mcCh_hi {S K : k_I} {n : Nat} (h : ∀ c, 13 ≤ c → S c = K c) : ∀ c, 13 ≤ c → mcCh n S c = mcCh n K c := by
  have h1 : ∀ c, 13 ≤ c → mcCh1 S c = mcCh1 K c := by
    unfold mcCh1
    rw [h 13 (by decide)]
    exact hi_up h
  have h2 : ∀ c, 13 ≤ c → mcCh2 n (mcCh1 S) c = mcCh2 n (mcCh1 K) c := by
    unfold mcCh2
    rw [h1 13 (by decide)]
    exact hi_mw h1 (by decide)
  unfold mcCh mcCh3
  rw [h2 21 (by decide)]
  exact hi_mw h2 (by decide)
theorem mcCh_v {n : Nat} {K : k_I} : (∀ c, c ≠ 13 → c ≠ 21 → c ≠ 22 → mcCh n K c = K c) ∧ (∀ j, j ≠ 3 → mcCh n K 13 0 j = K 13 0 j) ∧ mcCh n K 13 0 3 = K 13 0 3 + 1 ∧ (∀ t, mcCh n K 22 0 t = if t = n then K 13 0 3 + 1 else K 22 0 t) ∧ ∀ t, mcCh n K 21 0 t = if t = n then K 21 0 n + 1 else K 21 0 t := by
  have e13 : mcCh n K 13 0 = upd (K 13 0) 3 (K 13 0 3 + 1) := by
    unfold mcCh mcCh3 mcCh2 mcCh1
    rw [mw_C (by decide), mw_C (by decide), k_up_s]
  refine ⟨fun c h1 h2 h3 => ?_, fun j hj => by rw [e13, upd_n hj], by rw [e13, upd_s], fun t => ?_, fun t => ?_⟩
  · unfold mcCh mcCh3 mcCh2 mcCh1
    rw [mw_C h2, mw_C h3, k_up_C h1]
  · unfold mcCh mcCh3
    rw [mw_C (by decide)]
    unfold mcCh2
    rw [mwx]
    have : mcCh1 K 13 0 3 = K 13 0 3 + 1 := by unfold mcCh1; rw [k_up_s, upd_s]
    rw [this]
    unfold mcCh1
    rw [k_up_C (by decide)]
  · unfold mcCh mcCh3
    rw [mwx]
    have : ∀ t, mcCh2 n (mcCh1 K) 21 0 t = K 21 0 t := fun t => by unfold mcCh2 mcCh1; rw [mw_C (by decide), k_up_C (by decide)]
    rw [this, this]
theorem kChg3_v {n : Nat} {I : k_I} : (∀ c, c ≠ 3 → c ≠ 4 → c ≠ 5 → kChg3 n (kChg2 n (kChg1 I)) c = I c) ∧ kChg3 n (kChg2 n (kChg1 I)) 3 0 2 = I 3 0 2 + 1 ∧ (∀ t, kChg3 n (kChg2 n (kChg1 I)) 5 0 t = if t = n then I 3 0 2 + 1 else I 5 0 t) ∧ ∀ t, kChg3 n (kChg2 n (kChg1 I)) 4 0 t = if t = n then I 4 0 n + 1 else I 4 0 t := by
  refine ⟨fun c h1 h2 h3 => ?_, ?_, fun t => ?_, fun t => ?_⟩
  · unfold kChg3 kChg2 kChg1
    rw [k_up_C h2, k_up_C h3, k_up_C h1]
  · unfold kChg3 kChg2 kChg1
    rw [k_up_C (by decide), k_up_C (by decide), k_up_s, upd_s]
  · unfold kChg3
    rw [k_up_C (by decide)]
    unfold kChg2
    have : kChg1 I 3 0 2 = I 3 0 2 + 1 := by unfold kChg1; rw [k_up_s, upd_s]
    rw [k_up_s, this]
    by_cases h : t = n
    · subst h; rw [upd_s, if_pos rfl]
    · rw [upd_n h, if_neg h]; unfold kChg1; rw [k_up_C (by decide)]
  · unfold kChg3
    have : ∀ t, kChg2 n (kChg1 I) 4 0 t = I 4 0 t := fun t => by unfold kChg2 kChg1; rw [k_up_C (by decide), k_up_C (by decide)]
    rw [k_up_s]
    by_cases h : t = n
    · subst h; rw [upd_s, if_pos rfl, this]
    · rw [upd_n h, if_neg h, this]
theorem RR_changed {nA nK : Nat} {E : Nat → Nat} {I : k_I} {J : k_J} (x : Int32) (h : RR nA nK E I J) : k_St RR nA nK E (cChanged nA nK x (I, J)).2 (cChanged nA nK x (I, J)).1 (mcChanged x (cChanged nA nK x (I, J)).2).1 nA nK (mcChanged x (cChanged nA nK x (I, J)).2).2 := by
  unfold cChanged mcChanged
  rw [mIn_9]
  by_cases hx : kWithin x 0 9 = true
  · simp only [if_pos hx]
    obtain ⟨n, hn, rfl⟩ := kW_n (b := 9) rfl hx
    have e1 : kChange I (nI n) = kChg3 n (kChg2 n (kChg1 I)) := by
      unfold kChange
      rw [if_neg (nI_pos (by omega)), if_neg (show ¬ (10 : Int32) ≤ nI n from nI_ge (a := n) (b := 10) (by omega) (by decide)), nI_clamp (by omega)]
    have e2 : kChangeV I (nI n) = kChange I (nI n) 4 0 n := by
      unfold kChangeV
      rw [if_neg (nI_pos (by omega)), if_neg (show ¬ (10 : Int32) ≤ nI n from nI_ge (a := n) (b := 10) (by omega) (by decide)), nI_clamp (by omega)]
    rw [nI_clamp (by omega), e2, e1]
    obtain ⟨k1, k2, k3, k4⟩ := kChg3_v (n := n) (I := I)
    generalize kChg3 n (kChg2 n (kChg1 I)) = K at k1 k2 k3 k4
    have hK : m_S nA nK E K := h.ms.low (k1 13 (by decide) (by decide) (by decide)) (k1 28 (by decide) (by decide) (by decide)) (k1 35 (by decide) (by decide) (by decide))
    have hi := mcCh_hi (n := n) (S := (kSettle nA nK (K, J)).1) (K := K) (fun c hc => (kSettle_hi hc).1)
    obtain ⟨x1, x2, x3, x4, x5⟩ := mcCh_v (n := n) (K := K)
    obtain ⟨s1, -⟩ := mcCh_v (n := n) (K := (kSettle nA nK (K, J)).1)
    have t := h.raw.things
    refine ⟨kSettle_mS hK, ?_, E, RR_late (X := mcCh n K) (Y := J) (fun c hc => x1 c (by omega) (by omega) (by omega)) (fun _ _ => rfl) (fun c hc => s1 c (by omega) (by omega) (by omega)) (fun c hc _ => hi c hc) (fun _ _ => rfl) (fun c hc _ => (kSettle_hi hc).2) ?_ ?_ ?_ ?_ ?_ (by unfold g_Led; rw [x1 28 (by decide) (by decide) (by decide), k1 28 (by decide) (by decide) (by decide)]; exact h.led)⟩
    · rw [hi 21 (by decide), x5, if_pos rfl, k4, if_pos rfl, k1 21 (by decide) (by decide) (by decide), (t n (by omega)).1]
    · generalize mcCh n K = X at x1
      have ep : ∀ c, c ≠ 3 → c ≠ 4 → c ≠ 5 → c ≠ 13 → c ≠ 21 → c ≠ 22 → X c = I c := fun c a b d e f g => (x1 c e f g).trans (k1 c a b d)
      exact h.ks.of (ep 0 (by decide) (by decide) (by decide) (by decide) (by decide) (by decide)) (ep 6 (by decide) (by decide) (by decide) (by decide) (by decide) (by decide)) (ep 7 (by decide) (by decide) (by decide) (by decide) (by decide) (by decide))
    · obtain ⟨a1, a2, a3, a4, a5, a6⟩ := hK
      refine ⟨(x2 6 (by decide)).trans a1, (x2 16 (by decide)).trans a2, a3, a4, ?_, ?_⟩
      · rw [x1 28 (by decide) (by decide) (by decide)]; exact a5
      · rw [x1 35 (by decide) (by decide) (by decide)]; exact a6
    · rw [x1 6 (by decide) (by decide) (by decide), k1 6 (by decide) (by decide) (by decide)]; exact h.z6
    · rw [x1 7 (by decide) (by decide) (by decide), k1 7 (by decide) (by decide) (by decide)]; exact h.z7
    · generalize mcCh n K = X at x1 x2 x3 x4 x5
      have ep : ∀ c, c ≠ 3 → c ≠ 4 → c ≠ 5 → c ≠ 13 → c ≠ 21 → c ≠ 22 → X c = I c := fun c a b d e f g => (x1 c e f g).trans (k1 c a b d)
      have e13 : ∀ j, j ≠ 3 → X 13 0 j = I 13 0 j := fun j hj => by rw [x2 j hj, k1 13 (by decide) (by decide) (by decide)]
      obtain ⟨a1, a2, a3, a4, a5, a6, a7, a8, a9, b1, b2, b3, b4, b5, b6, b7, b8, b9, c1, c2⟩ := h.raw
      have e0 := ep 0 (by decide) (by decide) (by decide) (by decide) (by decide) (by decide)
      have e8 := ep 8 (by decide) (by decide) (by decide) (by decide) (by decide) (by decide)
      have e27 := ep 27 (by decide) (by decide) (by decide) (by decide) (by decide) (by decide)
      have e35 := ep 35 (by decide) (by decide) (by decide) (by decide) (by decide) (by decide)
      refine ⟨?_, ?_, ?_, ?_, ?_, ?_, ?_, ?_, ?_, ?_, ?_, ?_, ?_, ?_, ?_, ?_, ?_, b9, ?_, ?_⟩
      · rw [e0, e13 4 (by decide)]; exact a1
      · rw [e0, e13 5 (by decide)]; exact a2
      · rw [ep 2 (by decide) (by decide) (by decide) (by decide) (by decide) (by decide), ep 20 (by decide) (by decide) (by decide) (by decide) (by decide) (by decide)]; exact a3
      · rw [x1 3 (by decide) (by decide) (by decide), k2, x3, k1 13 (by decide) (by decide) (by decide), a4]
      · intro t ht
        rw [x1 4 (by decide) (by decide) (by decide), x1 5 (by decide) (by decide) (by decide), k3, k4, x4, x5, k1 13 (by decide) (by decide) (by decide), k1 21 (by decide) (by decide) (by decide), k1 22 (by decide) (by decide) (by decide)]
        by_cases htn : t = n
        · rw [if_pos htn, if_pos htn, if_pos htn, if_pos htn, a4, (a5 n (by omega)).1]
          exact ⟨rfl, rfl⟩
        · rw [if_neg htn, if_neg htn, if_neg htn, if_neg htn]
          exact a5 t ht
      · rw [e8]; exact a6
      · rw [e8, e27]; exact a7
      · rw [e8, ep 30 (by decide) (by decide) (by decide) (by decide) (by decide) (by decide)]; exact a8
      · rw [e8]; exact a9
      · rw [e8, ep 34 (by decide) (by decide) (by decide) (by decide) (by decide) (by decide)]; exact b1
      · rw [ep 10 (by decide) (by decide) (by decide) (by decide) (by decide) (by decide), e35]; exact b2
      · rw [e35]; exact b3
      · rw [e27, e35]; exact b4
      · rw [e27]; exact b5
      · rw [e27, ep 9 (by decide) (by decide) (by decide) (by decide) (by decide) (by decide), ep 31 (by decide) (by decide) (by decide) (by decide) (by decide) (by decide)]; exact b6
      · rw [e27, e8, ep 32 (by decide) (by decide) (by decide) (by decide) (by decide) (by decide)]; exact b7
      · rw [e27, e8, ep 33 (by decide) (by decide) (by decide) (by decide) (by decide) (by decide)]; exact b8
      · rw [ep 12 (by decide) (by decide) (by decide) (by decide) (by decide) (by decide), ep 38 (by decide) (by decide) (by decide) (by decide) (by decide) (by decide)]; exact c1
      · rw [e35]; exact c2
  · simp only [if_neg hx]
    have e1 : kChange I x = I ∧ kChangeV I x = -1001 := by
      unfold kChange kChangeV
      by_cases h0 : x < 0
      · rw [if_pos h0, if_pos h0]; exact ⟨rfl, rfl⟩
      · have h10 : (10 : Int32) ≤ x := by
          unfold kWithin at hx
          simp only [h0, decide_false, Bool.not_false, Bool.true_and, Bool.not_eq_true', decide_eq_false_iff_not, Classical.not_not] at hx
          rw [Int32.lt_iff_toInt_lt] at hx
          rw [Int32.le_iff_toInt_le]
          have z : (9 : Int32).toInt = 9 := rfl
          have z2 : (10 : Int32).toInt = 10 := rfl
          omega
        rw [if_neg h0, if_neg h0, if_pos h10, if_pos h10]; exact ⟨rfl, rfl⟩
    rw [e1.1, e1.2]
    exact ⟨kSettle_mS h.ms, rfl, E, h.settle⟩
theorem RR.rules {nA nK : Nat} {E : Nat → Nat} {I X : k_I} {J : k_J} (h : RR nA nK E I J) (ep : ∀ c, c ≠ 0 → c ≠ 13 → X c = I c) (e0 : ∀ k, k ≠ 6 → k ≠ 7 → X 0 0 k = I 0 0 k) (e13 : ∀ k, k ≠ 4 → k ≠ 5 → X 13 0 k = I 13 0 k) (near : X 0 0 6 = X 13 0 4 ∧ ∃ n, n ≤ 10 ∧ X 13 0 4 = nI n) (lim : X 0 0 7 = X 13 0 5 ∧ ∃ n, n ≤ 200 ∧ X 13 0 5 = nI n) : RR nA nK E X J := by
  refine ⟨?_, ?_, by rw [ep 6 (by decide) (by decide)]; exact h.z6, by rw [ep 7 (by decide) (by decide)]; exact h.z7, ?_, h.set.slot (fun x k _ => by rw [ep 8 (by decide) (by decide)]) (fun c h0 _ h13 _ _ => ep c h0 h13) (fun _ _ => rfl), by unfold g_Led; rw [ep 28 (by decide) (by decide)]; exact h.led⟩
  · obtain ⟨a1, a2, a3, a4, a5, a6⟩ := h.ks
    refine ⟨(e0 4 (by decide) (by decide)).trans a1, (e0 5 (by decide) (by decide)).trans a2, a3, a4, ?_, ?_⟩
    · rw [ep 6 (by decide) (by decide)]; exact a5
    · rw [ep 7 (by decide) (by decide)]; exact a6
  · obtain ⟨a1, a2, a3, a4, a5, a6⟩ := h.ms
    refine ⟨(e13 6 (by decide) (by decide)).trans a1, (e13 16 (by decide) (by decide)).trans a2, a3, a4, ?_, ?_⟩
    · rw [ep 28 (by decide) (by decide)]; exact a5
    · rw [ep 35 (by decide) (by decide)]; exact a6
  · obtain ⟨a1, a2, a3, a4, a5, a6, a7, a8, a9, b1, b2, b3, b4, b5, b6, b7, b8, b9, c1, c2⟩ := h.raw
    have e8 := ep 8 (by decide) (by decide)
    have e27 := ep 27 (by decide) (by decide)
    have e35 := ep 35 (by decide) (by decide)
    refine ⟨near, lim, ?_, ?_, ?_, ?_, ?_, ?_, ?_, ?_, ?_, ?_, ?_, ?_, ?_, ?_, ?_, b9, ?_, ?_⟩
    · rw [ep 2 (by decide) (by decide), ep 20 (by decide) (by decide)]; exact a3
    · rw [ep 3 (by decide) (by decide), e13 3 (by decide) (by decide)]; exact a4
    · rw [ep 4 (by decide) (by decide), ep 5 (by decide) (by decide), ep 21 (by decide) (by decide), ep 22 (by decide) (by decide)]; exact a5
    · rw [e8]; exact a6
    · rw [e8, e27]; exact a7
    · rw [e8, ep 30 (by decide) (by decide)]; exact a8
    · rw [e8]; exact a9
    · rw [e8, ep 34 (by decide) (by decide)]; exact b1
    · rw [ep 10 (by decide) (by decide), e35]; exact b2
    · rw [e35]; exact b3
    · rw [e27, e35]; exact b4
    · rw [e27]; exact b5
    · rw [e27, ep 9 (by decide) (by decide), ep 31 (by decide) (by decide)]; exact b6
    · rw [e27, e8, ep 32 (by decide) (by decide)]; exact b7
    · rw [e27, e8, ep 33 (by decide) (by decide)]; exact b8
    · rw [ep 12 (by decide) (by decide), ep 38 (by decide) (by decide)]; exact c1
    · rw [e35]; exact c2
theorem mcRu_v (w v : Int32) (I : k_I) : (∀ c, c ≠ 13 → mcRu2 w v (mcRu1 w v I) c = I c) ∧ (∀ k, k ≠ 4 → k ≠ 5 → mcRu2 w v (mcRu1 w v I) 13 0 k = I 13 0 k) ∧ mcRu2 w v (mcRu1 w v I) 13 0 4 = (if w = 0 then v else I 13 0 4) ∧ mcRu2 w v (mcRu1 w v I) 13 0 5 = (if w = 1 then v else I 13 0 5) := by
  have e1 : mcRu1 w v I 13 0 = upd (I 13 0) 4 (if w = 0 then v else I 13 0 4) := k_up_s
  have e2 : mcRu2 w v (mcRu1 w v I) 13 0 = upd (mcRu1 w v I 13 0) 5 (if w = 1 then v else mcRu1 w v I 13 0 5) := k_up_s
  refine ⟨fun c hc => (k_up_C hc).trans (k_up_C hc), fun k h4 h5 => by rw [e2, upd_n h5, e1, upd_n h4], by rw [e2, upd_n (by decide), e1, upd_s], by rw [e2, upd_s, e1, upd_n (by decide)]⟩
theorem RR_rule {nA nK : Nat} {E : Nat → Nat} {I : k_I} {J : k_J} (w v : Int32) (h : RR nA nK E I J) : k_St RR nA nK E (cRule w v (I, J)).2 (cRule w v (I, J)).1 (mcRule w v (cRule w v (I, J)).2).1 nA nK (mcRule w v (cRule w v (I, J)).2).2 := by
  have em : ∀ s : k_IJ, mcRule w v s = if kWithin w 0 1 && mIn (Int32.toInt64 v) 0 (if w = 0 then 10 else 200) then ((if w = 0 then s.1 13 0 4 else s.1 13 0 5), (mcRu2 w v (mcRu1 w v s.1), s.2)) else (-1002, s) := fun s => by unfold mcRule; rw [mIn_1]
  rw [em]
  by_cases h0 : w = 0
  · subst h0
    rw [if_pos rfl, mIn_10, show kWithin 0 0 1 = true from rfl, Bool.true_and]
    unfold cRule
    rw [show decide ((0 : Int32) = 0) = true from rfl, show decide ((0 : Int32) = 1) = false from rfl, Bool.true_and, Bool.false_and]
    by_cases hv : kWithin v 0 10 = true
    · simp only [if_pos hv, if_true]
      obtain ⟨n, hn, rfl⟩ := kW_n (b := 10) rfl hv
      obtain ⟨m1, m2, m3, m4⟩ := mcRu_v 0 (nI n) (k_up I 0 0 (upd (I 0 0) 6 (nI n)))
      have k0 : ∀ c, c ≠ 0 → k_up I 0 0 (upd (I 0 0) 6 (nI n)) c = I c := fun c hc => k_up_C hc
      have k6 : k_up I 0 0 (upd (I 0 0) 6 (nI n)) 0 0 = upd (I 0 0) 6 (nI n) := k_up_s
      generalize k_up I 0 0 (upd (I 0 0) 6 (nI n)) = K at m1 m2 m3 m4 k0 k6
      refine ⟨h.ms.low (k0 13 (by decide)) (k0 28 (by decide)) (k0 35 (by decide)), by rw [k0 13 (by decide)]; exact h.raw.near.1, E, h.rules (fun c h0 h13 => (m1 c h13).trans (k0 c h0)) (fun k h6 _ => by show mcRu2 0 (nI n) (mcRu1 0 (nI n) K) 0 0 k = _; rw [m1 0 (by decide), k6, upd_n h6]) (fun k h4 h5 => (m2 k h4 h5).trans (by rw [k0 13 (by decide)])) ?_ ?_⟩
      · show mcRu2 0 (nI n) (mcRu1 0 (nI n) K) 0 0 6 = mcRu2 0 (nI n) (mcRu1 0 (nI n) K) 13 0 4 ∧ ∃ m, m ≤ 10 ∧ mcRu2 0 (nI n) (mcRu1 0 (nI n) K) 13 0 4 = nI m
        rw [m1 0 (by decide), k6, upd_s, m3, if_pos rfl]
        exact ⟨rfl, n, hn, rfl⟩
      · show mcRu2 0 (nI n) (mcRu1 0 (nI n) K) 0 0 7 = mcRu2 0 (nI n) (mcRu1 0 (nI n) K) 13 0 5 ∧ ∃ m, m ≤ 200 ∧ mcRu2 0 (nI n) (mcRu1 0 (nI n) K) 13 0 5 = nI m
        rw [m1 0 (by decide), k6, upd_n (by decide), m4, if_neg (by decide), k0 13 (by decide)]
        exact h.raw.lim
    · simp only [if_neg hv]
      exact k_St.same h rfl
  · rw [if_neg h0, mIn_200]
    by_cases h1 : w = 1
    · subst h1
      rw [show kWithin 1 0 1 = true from rfl, Bool.true_and]
      unfold cRule
      rw [show decide ((1 : Int32) = 0) = false from rfl, show decide ((1 : Int32) = 1) = true from rfl, Bool.true_and, Bool.false_and]
      by_cases hv : kWithin v 0 200 = true
      · simp only [if_pos hv, if_neg h0, Bool.false_eq_true, if_false]
        obtain ⟨n, hn, rfl⟩ := kW_n (b := 200) rfl hv
        obtain ⟨m1, m2, m3, m4⟩ := mcRu_v 1 (nI n) (k_up I 0 0 (upd (I 0 0) 7 (nI n)))
        have k0 : ∀ c, c ≠ 0 → k_up I 0 0 (upd (I 0 0) 7 (nI n)) c = I c := fun c hc => k_up_C hc
        have k6 : k_up I 0 0 (upd (I 0 0) 7 (nI n)) 0 0 = upd (I 0 0) 7 (nI n) := k_up_s
        generalize k_up I 0 0 (upd (I 0 0) 7 (nI n)) = K at m1 m2 m3 m4 k0 k6
        refine ⟨h.ms.low (k0 13 (by decide)) (k0 28 (by decide)) (k0 35 (by decide)), by rw [k0 13 (by decide)]; exact h.raw.lim.1, E, h.rules (fun c h0 h13 => (m1 c h13).trans (k0 c h0)) (fun k _ h7 => by show mcRu2 1 (nI n) (mcRu1 1 (nI n) K) 0 0 k = _; rw [m1 0 (by decide), k6, upd_n h7]) (fun k h4 h5 => (m2 k h4 h5).trans (by rw [k0 13 (by decide)])) ?_ ?_⟩
        · show mcRu2 1 (nI n) (mcRu1 1 (nI n) K) 0 0 6 = mcRu2 1 (nI n) (mcRu1 1 (nI n) K) 13 0 4 ∧ ∃ m, m ≤ 10 ∧ mcRu2 1 (nI n) (mcRu1 1 (nI n) K) 13 0 4 = nI m
          rw [m1 0 (by decide), k6, upd_n (by decide), m3, if_neg (by decide), k0 13 (by decide)]
          exact h.raw.near
        · show mcRu2 1 (nI n) (mcRu1 1 (nI n) K) 0 0 7 = mcRu2 1 (nI n) (mcRu1 1 (nI n) K) 13 0 5 ∧ ∃ m, m ≤ 200 ∧ mcRu2 1 (nI n) (mcRu1 1 (nI n) K) 13 0 5 = nI m
          rw [m1 0 (by decide), k6, upd_s, m4, if_pos rfl]
          exact ⟨rfl, n, hn, rfl⟩
      · simp only [if_neg hv, Bool.false_eq_true, if_false]
        exact k_St.same h rfl
    · have hw : kWithin w 0 1 = false := by
        cases hc : kWithin w 0 1
        · rfl
        · obtain ⟨n, hn, rfl⟩ := kW_n (b := 1) rfl hc
          rcases (show n = 0 ∨ n = 1 by omega) with rfl | rfl
          · exact absurd rfl h0
          · exact absurd rfl h1
      unfold cRule
      rw [hw, decide_eq_false h0, decide_eq_false h1]
      simp only [Bool.false_and, Bool.false_eq_true, if_false]
      exact k_St.same h rfl
theorem hi_mw39 {S K : k_I} {a j : Nat} {x : Int32} (h : ∀ c, 13 ≤ c → c < 39 → S c = K c) (ha : 13 ≤ a) (ha2 : a < 39) : ∀ c, 13 ≤ c → c < 39 → mw a j x S c = mw a j x K c := by
  intro c h1 h2
  unfold mw
  rw [h a ha ha2]
  funext i'
  simp only [k_up, h c h1 h2]
theorem RR_confirm {nA nK : Nat} {E : Nat → Nat} {I : k_I} {J : k_J} (a : Int32) (h : RR nA nK E I J) : k_St RR nA nK E (cConfirm nA nK a (I, J)).2 (cConfirm nA nK a (I, J)).1 (mcConfirm E nA a (cConfirm nA nK a (I, J)).2).1 nA nK (mcConfirm E nA a (cConfirm nA nK a (I, J)).2).2 := by
  unfold cConfirm mcConfirm
  cases ha : kAns nA a with
  | none => exact k_St.same h rfl
  | some i =>
    have hi := kAns_b ha
    simp only
    by_cases hp : kKind I i = 0
    · simp only [if_pos hp]
      have hpm := (h.plain hi).mp hp
      obtain ⟨hk0, hk28⟩ := mPl_k hpm
      have hK : m_S nA nK E (k_up I 8 i (upd (I 8 i) 7 (I 3 0 2))) := h.ms.up _ _ _ (by decide)
      have ek : ∀ c, c ≠ 8 → k_up I 8 i (upd (I 8 i) 7 (I 3 0 2)) c = I c := fun c hc => k_up_C hc
      have e8 : ∀ x k, k ≠ 7 → k_up I 8 i (upd (I 8 i) 7 (I 3 0 2)) 8 x k = I 8 x k := fun x k hk => up8 hk
      have e7 : ∀ x, k_up I 8 i (upd (I 8 i) 7 (I 3 0 2)) 8 x 7 = if x = i then I 3 0 2 else I 8 x 7 := fun x => up8s
      generalize k_up I 8 i (upd (I 8 i) 7 (I 3 0 2)) = K at hK ek e8 e7
      have hs1 : ∀ c, 13 ≤ c → (kSettle nA nK (K, J)).1 c = I c := fun c hc => (kSettle_hi hc).1.trans (ek c (by omega))
      have hs2 : ∀ c, 13 ≤ c → (kSettle nA nK (K, J)).2 c = J c := fun c hc => (kSettle_hi hc).2
      rw [mPl_of (hs1 27 (by decide)) (hs1 28 (by decide)), if_pos hpm]
      have hm1 : m_S nA nK E (kSettle nA nK (K, J)).1 := kSettle_mS hK
      have hSK : ∀ c, 13 ≤ c → (kSettle nA nK (K, J)).1 c = K c := fun c hc => (kSettle_hi hc).1
      generalize hS : kSettle nA nK (K, J) = S at hs1 hs2 hm1 hSK
      obtain ⟨w1, w2, w3⟩ := mWork_v hm1 (h.raw.mr.of (hs1 27 (by decide)) (hs1 35 (by decide))) (J := S.2)
      have hv : v_D E S.1 = v_D E I := by
        unfold v_D v_D1
        rw [hs1 35 (by decide), hs1 27 (by decide), hs1 32 (by decide), hs1 22 (by decide), hs1 33 (by decide)]
      have hd := (w3 i hi).fd
      rw [hv] at hd
      have eF : ∀ c, c ≠ 33 → c < 39 → mcCo1 i (mWork E nA S).1 c = S.1 c := fun c h33 hc => (mw_C h33).trans (w1 c hc)
      refine ⟨hm1, ?_, E, ?_⟩
      · show k_b (kDoubted I i) = if mcCo1 i (mWork E nA S).1 43 0 i = 0 then 0 else 1
        have e43 : mcCo1 i (mWork E nA S).1 43 = (mWork E nA S).1 43 := mw_C (by decide)
        rw [e43]
        have hc := (h.set.d i hi).2.trans hd.symm
        unfold kDoubted
        rw [h.moved hi, decide_eq_true hk28]
        by_cases h43 : (mWork E nA S).1 43 0 i = 0
        · have : I 8 i 11 = 0 := Classical.byContradiction fun q => hc.mp q h43
          rw [if_pos h43, this]; rfl
        · have : ¬ I 8 i 11 = 0 := hc.mpr h43
          rw [if_neg h43, decide_eq_false this]; rfl
      · have hW : ∀ c, 13 ≤ c → c < 39 → (mWork E nA S).1 c = K c := fun c h1 h2 => (w1 c h2).trans (hSK c h1)
        have e13 : (mWork E nA S).1 13 0 3 = I 13 0 3 := by rw [w1 13 (by decide), hs1 13 (by decide)]
        refine RR_late (K := K) (L := J) (X := mw 33 i (I 13 0 3) K) (Y := J) (fun c hc => mw_C (by omega)) (fun _ _ => rfl) (fun c hc => by rw [hS]; exact eF c (by omega) (by omega)) (fun c h1 h2 => ?_) (fun c hc => by rw [hS]; exact w2 c (by omega)) (fun c h1 h2 => (w2 c h2).trans (hs2 c h1)) ?_ ?_ ?_ ?_ ?_ (by unfold g_Led; rw [mw_C (by decide), ek 28 (by decide)]; exact h.led)
        · show mw 33 i ((mWork E nA S).1 13 0 3) (mWork E nA S).1 c = _
          rw [e13]
          exact hi_mw39 hW (by decide) (by decide) c h1 h2
        · exact h.ks.of ((mw_C (by decide)).trans (ek 0 (by decide))) ((mw_C (by decide)).trans (ek 6 (by decide))) ((mw_C (by decide)).trans (ek 7 (by decide)))
        · exact hK.low (mw_C (by decide)) (mw_C (by decide)) (mw_C (by decide))
        · rw [mw_C (by decide), ek 6 (by decide)]; exact h.z6
        · rw [mw_C (by decide), ek 7 (by decide)]; exact h.z7
        · refine h.raw.slot (fun x k _ h7 _ => by rw [mw_C (by decide)]; exact e8 x k h7) (fun c h8 _ h33 _ _ => (mw_C h33).trans (ek c h8)) (fun _ _ => rfl) (fun x hx => ?_) (fun x hx hx0 => ?_) (fun x hx hx0 => ?_)
          · rw [mw_C (by decide), mw_C (by decide), e8 x 8 (by decide), ek 34 (by decide)]; exact h.raw.votes x hx
          · rw [mw_C (by decide), mw_C (by decide), e8 x 6 (by decide), ek 32 (by decide)]; exact h.raw.bound x hx hx0
          · rw [mw_C (by decide), e7, mwx, ek 33 (by decide), h.raw.clock]
            split
            · rfl
            · exact h.raw.sure x hx hx0
    · simp only [if_neg hp]
      have hpm : ¬ mPl I i = true := fun q => hp ((h.plain hi).mpr q)
      rw [if_neg hpm]
      exact k_St.same h rfl
