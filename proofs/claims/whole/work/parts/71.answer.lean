/-! answer -/
theorem hi_mwJ {S L : k_J} {a j : Nat} {x : Int64} (h : ∀ c, 13 ≤ c → S c = L c) (ha : 13 ≤ a) : ∀ c, 13 ≤ c → mwJ a j x S c = mwJ a j x L c := by
  intro c hc
  unfold mwJ
  rw [h a ha]
  funext i'
  simp only [k_up, h c hc]
theorem kKeep_v (n : Nat) (M : k_I) : (∀ c, c ≠ 0 → c ≠ 6 → kKeep n M c = M c) ∧ (∀ k, k ≠ 4 → kKeep n M 0 0 k = M 0 0 k) ∧ kKeep n M 0 0 4 = nI (n + 1) ∧ ∀ j, kKeep n M 6 0 j = if j = n then 1 else M 6 0 j := by
  have e0 : kKeep n M 0 0 = upd (M 0 0) 4 (nI (n + 1)) := by
    unfold kKeep kKeep2 kKeep1
    rw [k_up_s, k_up_C (by decide)]
  have e6 : kKeep n M 6 0 = upd (M 6 0) n 1 := by
    unfold kKeep kKeep2 kKeep1
    rw [k_up_C (by decide), k_up_s]
  refine ⟨fun c h0 h6 => (k_up_C h0).trans (k_up_C h6), fun k hk => by rw [e0, upd_n hk], by rw [e0, upd_s], fun j => ?_⟩
  rw [e6]
  by_cases h : j = n
  · subst h; rw [upd_s, if_pos rfl]
  · rw [upd_n h, if_neg h]
theorem kNew_v (n : Nat) (kd st : Int32) (I : k_I) : (∀ c, c ≠ 8 → c ≠ 9 → c ≠ 10 → kNew n kd st I c = I c) ∧ (∀ x, x ≠ n → kNew n kd st I 8 x = I 8 x ∧ kNew n kd st I 9 x = I 9 x ∧ kNew n kd st I 10 x = I 10 x) ∧ kNew n kd st I 8 n = kAn8 (nI n) kd st ∧ ∀ k, k < 4 → kNew n kd st I 10 n k = -1 := by
  unfold kNew
  refine ⟨fun c h8 h9 h10 => by rw [k_up_C h10, k_up_C h9, k_up_C h8], fun x hx => ⟨?_, ?_, ?_⟩, ?_, fun k hk => ?_⟩
  · rw [k_up_C (by decide), k_up_C (by decide), k_up_i hx]
  · rw [k_up_C (by decide), k_up_i hx, k_up_C (by decide)]
  · rw [k_up_i hx, k_up_C (by decide), k_up_C (by decide)]
  · rw [k_up_C (by decide), k_up_C (by decide), k_up_s]
  · rw [k_up_s]
    unfold k_fil
    rw [if_pos hk]
theorem kPutS_v (n : Nat) (a b c : Int32) (I : k_I) : (∀ c', c' ≠ 9 → kPutS n a b c I c' = I c') ∧ (∀ x, x ≠ n → kPutS n a b c I 9 x = I 9 x) ∧ ∀ k, k < 3 → kPutS n a b c I 9 n k = if nI k = 0 then a else if nI k = 1 then b else c := by
  have key := kLoop_i0 (step := fun k I => k_up I 9 n (upd (I 9 n) k (if nI k = 0 then a else if nI k = 1 then b else c))) (fun m r => (∀ c', c' ≠ 9 → r c' = I c') ∧ (∀ x, x ≠ n → r 9 x = I 9 x) ∧ ∀ k, k < m → r 9 n k = if nI k = 0 then a else if nI k = 1 then b else c) 3 I ⟨fun _ _ => rfl, fun _ _ => rfl, fun k hk => absurd hk (Nat.not_lt_zero _)⟩ (by
    rintro m r hm ⟨h1, h2, h3⟩
    refine ⟨fun c' hc => (k_up_C hc).trans (h1 c' hc), fun x hx => (k_up_i hx).trans (h2 x hx), fun k hk => ?_⟩
    rw [k_up_s]
    by_cases hkm : k = m
    · subst hkm; rw [upd_s]
    · rw [upd_n hkm]; exact h3 k (by omega))
  exact key
theorem mAnI_v (n : Nat) (st x y z : Int32) (K : k_I) : (∀ c, c ≠ 30 → c ≠ 31 → mAnI n st x y z K c = mFr n 0 K c) ∧ (∀ i, mAnI n st x y z K 30 0 i = if i = n then st else mFr n 0 K 30 0 i) ∧ (∀ i, i ≠ n → ∀ k, k < 3 → mAnI n st x y z K 31 0 (3 * i + k) = mFr n 0 K 31 0 (3 * i + k)) ∧ ∀ k, k < 3 → mAnI n st x y z K 31 0 (3 * n + k) = if nI k = 0 then x else if nI k = 1 then y else z := by
  unfold mAnI
  generalize mFr n 0 K = Z
  refine ⟨fun c h30 h31 => by rw [mw_C h31, mw_C h31, mw_C h31, mw_C h30], fun i => by rw [mw_C (by decide), mw_C (by decide), mw_C (by decide), mwx], fun i hi k hk => ?_, fun k hk => ?_⟩
  · rw [mwx, if_neg (by omega), mwx, if_neg (by omega), mwx, if_neg (by omega), mw_C (by decide)]
  · rcases (show k = 0 ∨ k = 1 ∨ k = 2 by omega) with rfl | rfl | rfl
    · rw [mwx, if_neg (by omega), mwx, if_neg (by omega), mwx, if_pos (show 3 * n + 0 = 3 * n from rfl)]; rfl
    · rw [mwx, if_neg (by omega), mwx, if_pos rfl]; rfl
    · rw [mwx, if_pos rfl]; rfl
theorem mAnI_hi {n : Nat} {st x y z : Int32} {S K : k_I} (h : ∀ c, 13 ≤ c → S c = K c) : ∀ c, 13 ≤ c → mAnI n st x y z S c = mAnI n st x y z K c :=
  hi_mw (hi_mw (hi_mw (hi_mw (mFr_hi h) (by decide)) (by decide)) (by decide)) (by decide)
theorem kIsSW_m (x : Int64) : kIsSW x = mIn x 0 1099511627775 := by
  unfold kIsSW mIn
  have e : decide (1099511627776 ≤ x) = decide (1099511627775 < x) := by
    rw [decide_eq_decide, Int64.le_iff_toInt_le, Int64.lt_iff_toInt_lt]
    have z1 : (1099511627776 : Int64).toInt = 1099511627776 := by decide
    have z2 : (1099511627775 : Int64).toInt = 1099511627775 := by decide
    omega
  rw [e]
theorem kIsSV_k (k : Nat) (x B : Int32) {b : Int64} (hB : kAllV (nI k) = B) (hb : Int32.toInt64 B = b) : kIsSV (nI k) x = mIn (Int32.toInt64 x) 1 b := by
  rw [mIn_32 (a := 1) (A := 1) (b := B) rfl hb]
  unfold kIsSV
  rw [hB]
  congr 2
  rw [decide_eq_decide, Int32.le_iff_toInt_le, Int32.lt_iff_toInt_lt]
  have z1 : (0 : Int32).toInt = 0 := rfl
  have z2 : (1 : Int32).toInt = 1 := rfl
  omega
theorem cAnswerOk_m (x : Int64) (st a b c : Int32) : cAnswerOk x st a b c = (mIn x 0 1099511627775 && (mIn (Int32.toInt64 st) 0 9999 && (mIn (Int32.toInt64 a) 1 255 && (mIn (Int32.toInt64 b) 1 1023 && mIn (Int32.toInt64 c) 1 15)))) := by
  unfold cAnswerOk
  rw [kIsSW_m, show kIsSV 0 a = mIn (Int32.toInt64 a) 1 255 from kIsSV_k 0 a 255 rfl rfl, show kIsSV 1 b = mIn (Int32.toInt64 b) 1 1023 from kIsSV_k 1 b 1023 rfl rfl, show kIsSV 2 c = mIn (Int32.toInt64 c) 1 15 from kIsSV_k 2 c 15 rfl rfl, show mIn (Int32.toInt64 st) 0 9999 = kWithin st 0 9999 from mIn_k (b := 9999) rfl]
theorem b_small {m b : Nat} (hm : m ≤ 1023) (hb : 10 ≤ b) : bt (nI m) b = false := by
  rcases Nat.lt_or_ge b 32 with h | h
  · show (BitVec.ofNat 32 m).getLsbD b = false
    rw [BitVec.getLsbD_ofNat, Nat.testBit_lt_two_pow (Nat.lt_of_lt_of_le (show m < 2 ^ 10 by omega) (Nat.pow_le_pow_right (by decide) hb)), Bool.and_false]
  · exact b_big h
theorem kIsSV_b {k : Nat} {x : Int32} (hB : (kAllV (nI k)).toInt ≤ 1023) (h : kIsSV (nI k) x = true) : ∀ b, 10 ≤ b → bt x b = false := by
  unfold kIsSV at h
  simp only [Bool.and_eq_true, Bool.not_eq_true', decide_eq_false_iff_not] at h
  obtain ⟨h1, h2⟩ := h
  rw [Int32.le_iff_toInt_le] at h1
  rw [Int32.lt_iff_toInt_lt] at h2
  have z : (0 : Int32).toInt = 0 := rfl
  obtain ⟨m, hm, rfl⟩ := nI_of2 (M := 1023) (n := 1023) (x := x) rfl (by rw [Int32.lt_iff_toInt_lt]; omega) (by
    rw [Int32.le_iff_toInt_le]
    have z3 : (1023 : Int32).toInt = 1023 := rfl
    omega)
  exact fun b hb => b_small hm hb
theorem nI_lt24 {n N : Nat} (hn : n ≤ N) (hN : N < 2 ^ 31) {x : Int32} (hx : x = nI N) : nI n < x ↔ ¬ nI n = x := by
  subst hx
  rw [nI_ltI (by omega) hN, nI_eq (by omega) hN]
  omega
theorem RR_answer {nA nK : Nat} {E : Nat → Nat} {I : k_I} {J : k_J} (w : Int64) (st a b c : Int32) (h : RR nA nK E I J) : k_St RR nA nK E (cAnswer nA nK w st a b c (I, J)).2.2 (cAnswer nA nK w st a b c (I, J)).1 (mcAnswer nA w st a b c (cAnswer nA nK w st a b c (I, J)).2.2).1 (cAnswer nA nK w st a b c (I, J)).2.1 nK (mcAnswer nA w st a b c (cAnswer nA nK w st a b c (I, J)).2.2).2 := by
  have h24 := h.ms.2.2.1
  unfold cAnswer mcAnswer
  rw [← cAnswerOk_m]
  by_cases hok : cAnswerOk w st a b c = true
  · simp only [if_pos hok]
    by_cases hfull : nI nA = 24
    · have hf2 : ¬ nI nA < 24 := fun q => (nI_lt24 (N := 24) h24 (by decide) rfl).mp q hfull
      simp only [if_pos hfull, if_neg hf2]
      exact k_St.same h rfl
    · have hf2 : nI nA < 24 := (nI_lt24 (N := 24) h24 (by decide) rfl).mpr hfull
      have hn : nA < 24 := (nI_ltI (b := 24) (by omega) (by decide)).mp hf2
      simp only [if_neg hfull, if_pos hf2]
      unfold cAnswer2
      simp only
      obtain ⟨n1, n2, n3, n4⟩ := kNew_v nA 0 st I
      generalize kNew nA 0 st I = N0 at n1 n2 n3 n4
      obtain ⟨s1, s2, s3⟩ := kPutS_v nA a b c N0
      generalize kPutS nA a b c N0 = N1 at s1 s2 s3
      have a1 : ∀ c, c ≠ 8 → kAns1 nA N1 c = N1 c := fun c hc => k_up_C hc
      have a2 : ∀ x, x ≠ nA → kAns1 nA N1 8 x = N1 8 x := fun x hx => k_up_i hx
      have a3 : kAns1 nA N1 8 nA = upd (N1 8 nA) 7 (N1 3 0 2) := k_up_s
      generalize kAns1 nA N1 = N2 at a1 a2 a3
      obtain ⟨k1, k2, k3, k4⟩ := kKeep_v nA N2
      generalize kKeep nA N2 = K at k1 k2 k3 k4
      have kc : ∀ c, c ≠ 0 → c ≠ 6 → c ≠ 8 → c ≠ 9 → c ≠ 10 → K c = I c := fun c h0 h6 h8 h9 h10 => by rw [k1 c h0 h6, a1 c h8, s1 c h9, n1 c h8 h9 h10]
      have k8n : K 8 nA = upd (kAn8 (nI nA) 0 st) 7 (I 3 0 2) := by rw [k1 8 (by decide) (by decide), a3, s1 8 (by decide), n3, s1 3 (by decide), n1 3 (by decide) (by decide) (by decide)]
      have l1 : ∀ c, c ≠ 8 → kAnsJ nA w (kNewJ nA J) c = J c := fun c hc => (k_up_C hc).trans (k_up_C hc)
      have l2 : ∀ x, x ≠ nA → kAnsJ nA w (kNewJ nA J) 8 x = J 8 x := fun x hx => (k_up_i hx).trans (k_up_i hx)
      have l3 : kAnsJ nA w (kNewJ nA J) 8 nA 5 = w := by unfold kAnsJ; rw [k_up_s, updL_s]
      generalize kAnsJ nA w (kNewJ nA J) = L at l1 l2 l3
      have z := mFr_v (n := nA) (k := 0) (I := K)
      obtain ⟨x1, x2, x3, x4⟩ := mAnI_v nA st a b c K
      have hK : m_S nA nK E K := h.ms.low (kc 13 (by decide) (by decide) (by decide) (by decide) (by decide)) (kc 28 (by decide) (by decide) (by decide) (by decide) (by decide)) (kc 35 (by decide) (by decide) (by decide) (by decide) (by decide))
      have y1 : ∀ c, c ≠ 29 → mAnJ nA w L c = L c := fun c hc => (mwJ_C hc).trans (mwJ_C hc)
      have y2 : mAnJ nA w L 29 0 nA = w := by unfold mAnJ; rw [mwJ_s, updL_s]
      have y3 : ∀ x, x ≠ nA → mAnJ nA w L 29 0 x = L 29 0 x := fun x hx => by
        unfold mAnJ mFrJ
        rw [mwJ_s, updL_n hx, mwJ_s, updL_n hx]
      have k13 := kc 13 (by decide) (by decide) (by decide) (by decide) (by decide)
      have o : k_Old nA I J (mAnI nA st a b c K) (mAnJ nA w L) := by
        refine ⟨fun c h0 h6 h8 h9 h10 h13 hc _ => ?_, fun k hk => ?_, fun k hk => ?_, fun x hx => ⟨?_, ?_, ?_⟩, fun c hc1 hc2 hc3 x hx => ?_, fun x hx k hk => ?_, fun x hx k hk => ?_, fun c h8 h29 _ => ?_, fun x hx => ⟨?_, ?_⟩⟩
        · rw [x1 c (by omega) (by omega), z.fc c h13 (by omega), kc c h0 h6 h8 h9 h10]
        · rw [x1 0 (by decide) (by decide), z.fc 0 (by decide) (by decide), k2 k hk, a1 0 (by decide), s1 0 (by decide), n1 0 (by decide) (by decide) (by decide)]
        · rw [x1 13 (by decide) (by decide), z.f13 k hk, k13]
        · rw [x1 8 (by decide) (by decide), z.fc 8 (by decide) (by decide), k1 8 (by decide) (by decide), a2 x hx, s1 8 (by decide), (n2 x hx).1]
        · rw [x1 9 (by decide) (by decide), z.fc 9 (by decide) (by decide), k1 9 (by decide) (by decide), a1 9 (by decide), s2 x hx, (n2 x hx).2.1]
        · rw [x1 10 (by decide) (by decide), z.fc 10 (by decide) (by decide), k1 10 (by decide) (by decide), a1 10 (by decide), s1 10 (by decide), (n2 x hx).2.2]
        · have kk := kc c (by omega) (by omega) (by omega) (by omega) (by omega)
          rcases (show c = 27 ∨ c = 28 ∨ c = 29 ∨ c = 30 ∨ c = 32 ∨ c = 33 ∨ c = 34 by omega) with rfl | rfl | rfl | rfl | rfl | rfl | rfl
          · rw [x1 27 (by decide) (by decide), z.f27, if_neg hx, kk]
          · rw [x1 28 (by decide) (by decide), z.f28, if_neg hx, kk]
          · rw [x1 29 (by decide) (by decide), z.fc 29 (by decide) (by decide), kk]
          · rw [x2, if_neg hx, z.f30, if_neg hx, kk]
          · rw [x1 32 (by decide) (by decide), z.f32, if_neg hx, kk]
          · rw [x1 33 (by decide) (by decide), z.f33, if_neg hx, kk]
          · rw [x1 34 (by decide) (by decide), z.f34, if_neg hx, kk]
        · rw [x3 x hx k hk, z.fc 31 (by decide) (by decide), kc 31 (by decide) (by decide) (by decide) (by decide) (by decide)]
        · rw [x1 35 (by decide) (by decide), z.f35 x hx k hk, kc 35 (by decide) (by decide) (by decide) (by decide) (by decide)]
        · rw [y1 c h29, l1 c h8]
        · rw [y1 8 (by decide), l2 x hx]
        · rw [y3 x hx, l1 29 (by decide)]
      have x8 : mAnI nA st a b c K 8 nA = upd (kAn8 (nI nA) 0 st) 7 (I 3 0 2) := by rw [x1 8 (by decide) (by decide), z.fc 8 (by decide) (by decide), k8n]
      have x27 : mAnI nA st a b c K 27 0 nA = 0 := by rw [x1 27 (by decide) (by decide), z.f27, if_pos rfl]
      have x35 : ∀ k, k < 4 → mAnI nA st a b c K 35 0 (4 * nA + k) = -1 := fun k hk => by rw [x1 35 (by decide) (by decide), z.f35n k hk]
      have hs := hok
      unfold cAnswerOk at hs
      simp only [Bool.and_eq_true] at hs
      have nw : k_NwA nA (mAnI nA st a b c K) (mAnJ nA w L) := by
        refine ⟨?_, ⟨?_, Or.inl x27⟩, ?_, ?_, ?_, fun k hk => ?_, fun k hk => Or.inl (x35 k hk), fun k hk _ => ?_, fun _ k hk => ?_, fun _ => ?_, fun _ k hk => ⟨?_, ?_⟩, fun _ => ?_, fun _ => ?_, ?_⟩
        · rw [x8]; rfl
        · rw [x8, x27]; rfl
        · rw [x8, x2, if_pos rfl]; rfl
        · rw [x8]; rfl
        · rw [x8, x1 34 (by decide) (by decide), z.f34, if_pos rfl]; rfl
        · rw [x35 k hk, x1 10 (by decide) (by decide), z.fc 10 (by decide) (by decide), k1 10 (by decide) (by decide), a1 10 (by decide), s1 10 (by decide), n4 k hk]
        · rw [x35 (k + 1) (by omega)]; decide
        · rw [x35 k hk]; decide
        · rw [y1 8 (by decide), l3, y2]
        · rw [x4 k hk, x1 9 (by decide) (by decide), z.fc 9 (by decide) (by decide), k1 9 (by decide) (by decide), a1 9 (by decide), s3 k hk]
        · rw [x4 k hk]
          rcases (show k = 0 ∨ k = 1 ∨ k = 2 by omega) with rfl | rfl | rfl
          · exact kIsSV_b (k := 0) (by decide) hs.2.2.1
          · exact kIsSV_b (k := 1) (by decide) hs.2.2.2.1
          · exact kIsSV_b (k := 2) (by decide) hs.2.2.2.2
        · rw [x8, x1 32 (by decide) (by decide), z.f32, if_pos rfl]; rfl
        · rw [x8, upd_s, x1 33 (by decide) (by decide), z.f33, if_pos rfl, k13, h.raw.clock]
        · rw [x1 28 (by decide) (by decide), z.f28, if_pos rfl]
      have h6 : mAnI nA st a b c K 13 0 6 = nI (nA + 1) := by rw [x1 13 (by decide) (by decide), z.f6, k13, h.ms.1, nI_1]
      have hRR : RR (nA + 1) nK (g_Ew E nA) (mAnI nA st a b c (kSettle (nA + 1) nK (K, L)).1) (mAnJ nA w (kSettle (nA + 1) nK (K, L)).2) := by
        refine RR_late (F := (mAnI nA st a b c (kSettle (nA + 1) nK (K, L)).1, mAnJ nA w (kSettle (nA + 1) nK (K, L)).2)) (K := K) (L := L) (X := mAnI nA st a b c K) (Y := mAnJ nA w L) (fun e he => ?_) (fun c hc => y1 c (by omega)) (fun e he => ?_) (fun c h1 _ => mAnI_hi (fun c hc => (kSettle_hi hc).1) c h1) (fun c hc => (mwJ_C (by omega)).trans (mwJ_C (by omega))) (fun c h1 _ => hi_mwJ (hi_mwJ (fun c hc => (kSettle_hi hc).2) (by decide)) (by decide) c h1) (h.ks.grow o hn ?_ ?_) (h.ms.grow h.led o nw hn h6) (fun j hj => ?_) ?_ (h.raw.grow h.ms o nw hn) (h.led.grow o nw)
        · rw [x1 e (by omega) (by omega), z.fc e (by omega) (by omega)]
        · show mAnI nA st a b c (kSettle (nA + 1) nK (K, L)).1 e = _
          rw [(mAnI_v nA st a b c _).1 e (by omega) (by omega), mFr_v.fc e (by omega) (by omega)]
        · rw [x1 0 (by decide) (by decide), z.fc 0 (by decide) (by decide), k3]
        · intro j
          rw [x1 6 (by decide) (by decide), z.fc 6 (by decide) (by decide), k4, a1 6 (by decide), s1 6 (by decide), n1 6 (by decide) (by decide) (by decide)]
        · rw [x1 6 (by decide) (by decide), z.fc 6 (by decide) (by decide), k4, if_neg (by omega), a1 6 (by decide), s1 6 (by decide), n1 6 (by decide) (by decide) (by decide)]
          exact h.z6 j (by omega)
        · rw [o.oc 7 (by decide) (by decide) (by decide) (by decide) (by decide) (by decide) (by decide) (by decide)]; exact h.z7
      refine ⟨kSettle_mS hK, ?_, g_Ew E nA, hRR⟩
      have e := hRR.raw.num nA (by omega)
      rw [(mAnI_v nA st a b c _).1 8 (by decide) (by decide), mFr_v.fc 8 (by decide) (by decide)] at e
      exact e
  · simp only [if_neg hok]
    exact k_St.same h rfl
