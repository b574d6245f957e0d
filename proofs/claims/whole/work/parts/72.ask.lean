/-! ask -/
theorem kIsValN_m {k : Nat} (hk : k < 3) (v : Int32) : kIsValN (nI k) v = (decide (v = -1) || mIsV (nI k) v) := by
  unfold kIsValN
  rw [kIsVal_m hk]
theorem cAskOk_m (w : Int64) (x y z : Int32) : cAskOk w x y z = (mIn w 0 1099511627775 && mGood x y z) := by
  unfold cAskOk mGood
  rw [kIsSW_m, show kIsValN 0 x = (decide (x = -1) || mIsV 0 x) from kIsValN_m (k := 0) (by decide) x, show kIsValN 1 y = (decide (y = -1) || mIsV 1 y) from kIsValN_m (k := 1) (by decide) y, show kIsValN 2 z = (decide (z = -1) || mIsV 2 z) from kIsValN_m (k := 2) (by decide) z]
theorem kIsValN_v {k : Nat} (hk : k < 3) {v : Int32} (h : kIsValN (nI k) v = true) : v = -1 ∨ ∃ n, n < 10 ∧ v = nI n := by
  rw [kIsValN_m hk, mIsV_k hk, Bool.or_eq_true, decide_eq_true_eq] at h
  rcases h with h | h
  · exact Or.inl h
  · refine Or.inr ?_
    rcases (show k = 0 ∨ k = 1 ∨ k = 2 by omega) with rfl | rfl | rfl
    · obtain ⟨n, hn, e⟩ := kW_n (b := 7) rfl h
      exact ⟨n, by omega, e⟩
    · obtain ⟨n, hn, e⟩ := kW_n (b := 9) rfl h
      exact ⟨n, by omega, e⟩
    · obtain ⟨n, hn, e⟩ := kW_n (b := 3) rfl h
      exact ⟨n, by omega, e⟩
theorem mAkI_v (n : Nat) (x y z : Int32) (K : k_I) : (∀ c, c ≠ 13 → c ≠ 38 → mAk5 n (mAkI n x y z K) c = K c) ∧ (∀ k, k ≠ 16 → mAk5 n (mAkI n x y z K) 13 0 k = K 13 0 k) ∧ mAk5 n (mAkI n x y z K) 13 0 16 = nI (n + 1) ∧ (∀ i, i ≠ n → ∀ k, k < 3 → mAk5 n (mAkI n x y z K) 38 0 (3 * i + k) = K 38 0 (3 * i + k)) ∧ ∀ k, k < 3 → mAk5 n (mAkI n x y z K) 38 0 (3 * n + k) = if nI k = 0 then x else if nI k = 1 then y else z := by
  have e13 : mAk5 n (mAkI n x y z K) 13 0 = upd (mAkI n x y z K 13 0) 16 (nI (n + 1)) := k_up_s
  have e5 : ∀ c, c ≠ 13 → mAk5 n (mAkI n x y z K) c = mAkI n x y z K c := fun c hc => k_up_C hc
  have eI : ∀ c, c ≠ 38 → mAkI n x y z K c = K c := fun c hc => (mw_C hc).trans ((mw_C hc).trans (mw_C hc))
  refine ⟨fun c h13 h38 => (e5 c h13).trans (eI c h38), fun k hk => by rw [e13, upd_n hk, eI 13 (by decide)], by rw [e13, upd_s], fun i hi k hk => ?_, fun k hk => ?_⟩
  · rw [e5 38 (by decide)]
    unfold mAkI
    rw [mwx, if_neg (by omega), mwx, if_neg (by omega), mwx, if_neg (by omega)]
  · rw [e5 38 (by decide)]
    unfold mAkI
    rcases (show k = 0 ∨ k = 1 ∨ k = 2 by omega) with rfl | rfl | rfl
    · rw [mwx, if_neg (by omega), mwx, if_neg (by omega), mwx, if_pos (show 3 * n + 0 = 3 * n from rfl)]; rfl
    · rw [mwx, if_neg (by omega), mwx, if_pos rfl]; rfl
    · rw [mwx, if_pos rfl]; rfl
theorem mAkI_hi {n : Nat} {x y z : Int32} {S K : k_I} (h : ∀ c, 13 ≤ c → S c = K c) : ∀ c, 13 ≤ c → mAk5 n (mAkI n x y z S) c = mAk5 n (mAkI n x y z K) c := by
  have h1 : ∀ c, 13 ≤ c → mAkI n x y z S c = mAkI n x y z K c := hi_mw (hi_mw (hi_mw h (by decide)) (by decide)) (by decide)
  unfold mAk5
  rw [h1 13 (by decide)]
  exact hi_up h1
theorem RR_ask {nA nK : Nat} {E : Nat → Nat} {I : k_I} {J : k_J} (w : Int64) (x y z : Int32) (h : RR nA nK E I J) : k_St RR nA nK E (cAsk nA nK w x y z (I, J)).2.2 (cAsk nA nK w x y z (I, J)).1 (mcAsk nK w x y z (cAsk nA nK w x y z (I, J)).2.2).1 nA (cAsk nA nK w x y z (I, J)).2.1 (mcAsk nK w x y z (cAsk nA nK w x y z (I, J)).2.2).2 := by
  have h30 := h.ms.2.2.2.1
  unfold cAsk mcAsk
  rw [← cAskOk_m]
  by_cases hok : cAskOk w x y z = true
  · simp only [if_pos hok]
    by_cases hfull : nI nK = 30
    · have hf2 : ¬ nI nK < 30 := fun q => (nI_lt24 (N := 30) h30 (by decide) rfl).mp q hfull
      simp only [if_pos hfull, if_neg hf2]
      exact k_St.same h rfl
    · have hf2 : nI nK < 30 := (nI_lt24 (N := 30) h30 (by decide) rfl).mpr hfull
      have hn : nK < 30 := (nI_ltI (b := 30) (by omega) (by decide)).mp hf2
      simp only [if_neg hfull, if_pos hf2]
      unfold cAsk2
      simp only
      have n1 : ∀ c, c ≠ 12 → kAsk9 nK x y z I c = I c := fun c hc => k_up_C hc
      have n2 : ∀ i, i ≠ nK → kAsk9 nK x y z I 12 i = I 12 i := fun i hi => k_up_i hi
      have n3 : kAsk9 nK x y z I 12 nK = kAskV x y z := k_up_s
      generalize kAsk9 nK x y z I = N0 at n1 n2 n3
      have k6 : kAsk2 nK (kAsk1 nK N0) 7 0 = upd (N0 7 0) nK 1 := by
        unfold kAsk2 kAsk1
        rw [k_up_C (by decide), k_up_s]
      have k0 : kAsk2 nK (kAsk1 nK N0) 0 0 = upd (N0 0 0) 5 (nI (nK + 1)) := by
        unfold kAsk2 kAsk1
        rw [k_up_s, k_up_C (by decide)]
      have k1 : ∀ c, c ≠ 0 → c ≠ 7 → kAsk2 nK (kAsk1 nK N0) c = N0 c := fun c h0 h7 => (k_up_C h0).trans (k_up_C h7)
      generalize kAsk2 nK (kAsk1 nK N0) = K at k6 k0 k1
      have kc : ∀ c, c ≠ 0 → c ≠ 7 → c ≠ 12 → K c = I c := fun c h0 h7 h12 => (k1 c h0 h7).trans (n1 c h12)
      have l1 : ∀ c, c ≠ 11 → kAsk9J nK w J c = J c := fun c hc => k_up_C hc
      have l2 : ∀ i, i ≠ nK → kAsk9J nK w J 11 i = J 11 i := fun i hi => k_up_i hi
      have l3 : kAsk9J nK w J 11 nK 0 = w := by unfold kAsk9J; rw [k_up_s]; rfl
      generalize kAsk9J nK w J = L at l1 l2 l3
      obtain ⟨x1, x2, x3, x4, x5⟩ := mAkI_v nK x y z K
      have hK : m_S nA nK E K := h.ms.low (kc 13 (by decide) (by decide) (by decide)) (kc 28 (by decide) (by decide) (by decide)) (kc 35 (by decide) (by decide) (by decide))
      have xc : ∀ c, c ≠ 0 → c ≠ 7 → c ≠ 12 → c ≠ 13 → c ≠ 38 → mAk5 nK (mAkI nK x y z K) c = I c := fun c h0 h7 h12 h13 h38 => (x1 c h13 h38).trans (kc c h0 h7 h12)
      have k13 := kc 13 (by decide) (by decide) (by decide)
      have k38 := kc 38 (by decide) (by decide) (by decide)
      have y1 : ∀ c, c ≠ 37 → mwJ 37 nK w L c = L c := fun c hc => mwJ_C hc
      have y2 : mwJ 37 nK w L 37 0 nK = w := by rw [mwJ_s, updL_s]
      have y3 : ∀ i, i ≠ nK → mwJ 37 nK w L 37 0 i = L 37 0 i := fun i hi => by rw [mwJ_s, updL_n hi]
      have hs := hok
      unfold cAskOk at hs
      simp only [Bool.and_eq_true] at hs
      refine ⟨kSettle_mS hK, ?_, E, RR_late (F := (mAk5 nK (mAkI nK x y z (kSettle nA (nK + 1) (K, L)).1), mwJ 37 nK w (kSettle nA (nK + 1) (K, L)).2)) (K := K) (L := L) (X := mAk5 nK (mAkI nK x y z K)) (Y := mwJ 37 nK w L) (fun c hc => x1 c (by omega) (by omega)) (fun c hc => y1 c (by omega)) (fun c hc => (mAkI_v nK x y z _).1 c (by omega) (by omega)) (fun c h1 _ => mAkI_hi (fun c hc => (kSettle_hi hc).1) c h1) (fun c hc => mwJ_C (by omega)) (fun c h1 _ => hi_mwJ (fun c hc => (kSettle_hi hc).2) (by decide) c h1) ?_ ?_ ?_ ?_ ?_ ?_⟩
      · show nI nK = mAk5 nK (mAkI nK x y z (kSettle nA (nK + 1) (K, L)).1) 13 0 16 - 1
        rw [(mAkI_v nK x y z _).2.2.1, nI_pred]
      · generalize mAk5 nK (mAkI nK x y z K) = X at x1 x2 x3 x4 x5 xc
        obtain ⟨a1, a2, a3, a4, a5, a6⟩ := h.ks
        refine ⟨?_, ?_, a3, by omega, ?_, fun j hj => ?_⟩
        · rw [x1 0 (by decide) (by decide), k0, upd_n (by decide), n1 0 (by decide)]; exact a1
        · rw [x1 0 (by decide) (by decide), k0, upd_s]
        · rw [xc 6 (by decide) (by decide) (by decide) (by decide) (by decide)]; exact a5
        · rw [x1 7 (by decide) (by decide), k6]
          by_cases hjn : j = nK
          · subst hjn; rw [upd_s]; decide
          · rw [upd_n hjn, n1 7 (by decide)]; exact a6 j (by omega)
      · generalize mAk5 nK (mAkI nK x y z K) = X at x1 x2 x3 x4 x5 xc
        obtain ⟨a1, a2, a3, a4, a5, a6⟩ := h.ms
        refine ⟨?_, x3, a3, by omega, ?_, ?_⟩
        · rw [x2 6 (by decide), k13]; exact a1
        · rw [xc 28 (by decide) (by decide) (by decide) (by decide) (by decide)]; exact a5
        · rw [xc 35 (by decide) (by decide) (by decide) (by decide) (by decide)]; exact a6
      · rw [xc 6 (by decide) (by decide) (by decide) (by decide) (by decide)]; exact h.z6
      · intro j hj
        rw [x1 7 (by decide) (by decide), k6, upd_n (by omega), n1 7 (by decide)]; exact h.z7 j (by omega)
      · generalize mAk5 nK (mAkI nK x y z K) = X at x1 x2 x3 x4 x5 xc
        generalize mwJ 37 nK w L = Y at y1 y2 y3
        have q : ∀ c, c ≠ 0 → c ≠ 7 → c ≠ 12 → c ≠ 13 → c ≠ 38 → X c = I c := xc
        have q0 : ∀ k, k ≠ 5 → X 0 0 k = I 0 0 k := fun k hk => by rw [x1 0 (by decide) (by decide), k0, upd_n hk, n1 0 (by decide)]
        have q13 : ∀ k, k ≠ 16 → X 13 0 k = I 13 0 k := fun k hk => by rw [x2 k hk, k13]
        have e8 := q 8 (by decide) (by decide) (by decide) (by decide) (by decide)
        have e27 := q 27 (by decide) (by decide) (by decide) (by decide) (by decide)
        have e35 := q 35 (by decide) (by decide) (by decide) (by decide) (by decide)
        obtain ⟨a1, a2, a3, a4, a5, a6, a7, a8, a9, b1, b2, b3, b4, b5, b6, b7, b8, b9, c1, c2⟩ := h.raw
        refine ⟨?_, ?_, ?_, ?_, ?_, ?_, ?_, ?_, ?_, ?_, ?_, ?_, ?_, ?_, ?_, ?_, ?_, ?_, ?_, ?_⟩
        · rw [q0 6 (by decide), q13 4 (by decide)]; exact a1
        · rw [q0 7 (by decide), q13 5 (by decide)]; exact a2
        · rw [q 2 (by decide) (by decide) (by decide) (by decide) (by decide), q 20 (by decide) (by decide) (by decide) (by decide) (by decide)]; exact a3
        · rw [q 3 (by decide) (by decide) (by decide) (by decide) (by decide), q13 3 (by decide)]; exact a4
        · rw [q 4 (by decide) (by decide) (by decide) (by decide) (by decide), q 5 (by decide) (by decide) (by decide) (by decide) (by decide), q 21 (by decide) (by decide) (by decide) (by decide) (by decide), q 22 (by decide) (by decide) (by decide) (by decide) (by decide)]; exact a5
        · rw [e8]; exact a6
        · rw [e8, e27]; exact a7
        · rw [e8, q 30 (by decide) (by decide) (by decide) (by decide) (by decide)]; exact a8
        · rw [e8]; exact a9
        · rw [e8, q 34 (by decide) (by decide) (by decide) (by decide) (by decide)]; exact b1
        · rw [q 10 (by decide) (by decide) (by decide) (by decide) (by decide), e35]; exact b2
        · rw [e35]; exact b3
        · rw [e27, e35]; exact b4
        · rw [e27, y1 8 (by decide), y1 29 (by decide), l1 8 (by decide), l1 29 (by decide)]; exact b5
        · rw [e27, q 9 (by decide) (by decide) (by decide) (by decide) (by decide), q 31 (by decide) (by decide) (by decide) (by decide) (by decide)]; exact b6
        · rw [e27, e8, q 32 (by decide) (by decide) (by decide) (by decide) (by decide)]; exact b7
        · rw [e27, e8, q 33 (by decide) (by decide) (by decide) (by decide) (by decide)]; exact b8
        · intro i hi
          rw [y1 11 (by decide)]
          by_cases hin : i = nK
          · subst hin; rw [l3, y2]
          · rw [l2 i hin, y3 i hin, l1 37 (by decide)]; exact b9 i (by omega)
        · intro i hi k hk
          rw [x1 12 (by decide) (by decide), k1 12 (by decide) (by decide)]
          by_cases hin : i = nK
          · subst hin
            have ev : kAskV x y z k = if nI k = 0 then x else if nI k = 1 then y else z := by unfold kAskV k_fil; rw [if_pos hk]
            rw [n3, x5 k hk, ev]
            refine ⟨rfl, ?_⟩
            rcases (show k = 0 ∨ k = 1 ∨ k = 2 by omega) with rfl | rfl | rfl
            · exact kIsValN_v (k := 0) (by decide) hs.2.1
            · exact kIsValN_v (k := 1) (by decide) hs.2.2.1
            · exact kIsValN_v (k := 2) (by decide) hs.2.2.2
          · rw [n2 i hin, x4 i hin k hk, k38]; exact c1 i (by omega) k hk
        · rw [e35]; exact c2
      · unfold g_Led
        rw [xc 28 (by decide) (by decide) (by decide) (by decide) (by decide)]; exact h.led
  · simp only [if_neg hok]
    exact k_St.same h rfl
