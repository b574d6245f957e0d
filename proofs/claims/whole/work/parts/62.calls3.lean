/-! told, words, holds -/
theorem kPartN_m {nA nK : Nat} {E : Nat → Nat} {I W : k_I} {J : k_J} (raw : k_Raw nA nK E I J) (h35 : W 35 = I 35) {i : Nat} (hi : i < nA) : kPartN I i = mPartN W i := by
  have key : ∀ d k (n : Int32), k + d = 4 → kLoop (fun k n => if I 10 i k = -1 then n else n + 1) d k n = kLoop (fun k n => n + (if W 35 0 (4 * i + k) < 0 then 0 else 1)) d k n := by
    intro d
    induction d with
    | zero => intro k n _; rfl
    | succ d ih =>
      intro k n hd
      rw [kLoop_s, kLoop_s, ih (k + 1) _ (by omega)]
      congr 1
      obtain ⟨e, hm⟩ := raw.parts i hi k (by omega)
      rw [e, h35]
      by_cases hn : I 35 0 (4 * i + k) < 0
      · rw [if_pos hn, if_pos (hm hn), Int32.add_zero]
      · rw [if_neg hn, if_neg (fun q => hn (by rw [q]; decide))]
  exact key 4 0 0 rfl
theorem kPartNow_m {nA nK : Nat} {E : Nat → Nat} {I W : k_I} {J : k_J} (raw : k_Raw nA nK E I J) (ms : m_S nA nK E I) (h35 : W 35 = I 35) {i k : Nat} (hi : i < nA) (hk : k < 4) : kPartNow nA I i (nI k) = mPartE E W i k := by
  have uh := raw.uh ms (I' := I) (fun _ _ => rfl) (fun _ _ => rfl) rfl
  unfold kPartNow mPartE
  rw [uh.e hi hk, h35]
  by_cases hn : I 35 0 (4 * i + k) < 0
  · rw [if_pos hn, if_pos hn]
  · rw [if_neg hn, if_neg hn]
    exact uh.num _ (uh.el2 hi hk hn)
theorem kDoubt_m {nA nK : Nat} {E : Nat → Nat} {I W : k_I} {J : k_J} (h : RR nA nK E I J) {i : Nat} (hi : i < nA) (h28 : W 28 = I 28) (hd : W 43 0 i = 0 ↔ I 8 i 11 = 0) : k_b (kDoubted I i) = if W 28 0 i < 0 then (if W 43 0 i = 0 then 0 else 1) else 0 := by
  unfold kDoubted
  rw [h.moved hi, h28]
  by_cases c : I 28 0 i < 0
  · rw [if_pos c, decide_eq_true c]
    by_cases c2 : I 8 i 11 = 0
    · rw [if_pos (hd.mpr c2), decide_eq_true c2]; rfl
    · rw [if_neg (fun q => c2 (hd.mp q)), decide_eq_false c2]; rfl
  · rw [if_neg c, decide_eq_false c]
    simp only [Bool.not_false, Bool.not_true, Bool.and_false]; rfl
theorem RR_told {nA nK : Nat} {E : Nat → Nat} {I : k_I} {J : k_J} (a w : Int32) (h : RR nA nK E I J) : k_St RR nA nK E (I, J) (cTold nA I a w) (mcTold E nA a w (I, J)).1 nA nK (mcTold E nA a w (I, J)).2 := by
  have k := mWork_eq h
  unfold cTold mcTold
  rw [mIn_13]
  cases ha : kAns nA a with
  | none => exact k_St.same h rfl
  | some i =>
    have hi := kAns_b ha
    simp only
    by_cases hw : kWithin w 0 13 = true
    · simp only [if_pos hw]
      refine ⟨h.ms, ?_, E, h.of k.lo k.loJ⟩
      generalize mWork E nA (I, J) = W at k
      have w28 : W.1 28 = I 28 := k.lo 28 (by decide)
      have w35 : W.1 35 = I 35 := k.lo 35 (by decide)
      obtain ⟨n, hn, rfl⟩ := kW_n (b := 13) rfl hw
      rcases (show n = 0 ∨ n = 1 ∨ n = 2 ∨ n = 3 ∨ n = 4 ∨ n = 5 ∨ n = 6 ∨ n = 7 ∨ n = 8 ∨ n = 9 ∨ n = 10 ∨ n = 11 ∨ n = 12 ∨ n = 13 by omega) with rfl | rfl | rfl | rfl | rfl | rfl | rfl | rfl | rfl | rfl | rfl | rfl | rfl | rfl
      · show kKind I i = if W.1 28 0 i < 0 then W.1 27 0 i else 2
        rw [h.kindV hi, w28, k.lo 27 (by decide)]
      · exact h.raw.ends i hi
      · show I 8 i 2 = W.1 30 0 i
        rw [k.lo 30 (by decide)]; exact h.raw.steps i hi
      · exact (kSet_n (k := 0) (by decide)).trans (k.fs i hi 0 (by decide)).symm
      · exact (kSet_n (k := 1) (by decide)).trans (k.fs i hi 1 (by decide)).symm
      · exact (kSet_n (k := 2) (by decide)).trans (k.fs i hi 2 (by decide)).symm
      · exact (k.ft i hi).symm
      · exact kDoubt_m h hi w28 (k.fd i hi)
      · show I 8 i 8 = W.1 34 0 i
        rw [k.lo 34 (by decide)]; exact h.raw.votes i hi
      · exact kPartN_m h.raw w35 hi
      · exact kPartNow_m h.raw h.ms w35 hi (k := 0) (by decide)
      · exact kPartNow_m h.raw h.ms w35 hi (k := 1) (by decide)
      · exact kPartNow_m h.raw h.ms w35 hi (k := 2) (by decide)
      · exact kPartNow_m h.raw h.ms w35 hi (k := 3) (by decide)
    · simp only [if_neg hw]
      refine k_St.same h ?_
      have q : ∀ v : Int32, kWithin v 0 13 = true → ¬ w = v := fun v hv e => hw (e ▸ hv)
      rw [if_neg (q 0 rfl), if_neg (q 1 rfl), if_neg (q 2 rfl), if_neg (q 3 rfl), if_neg (q 4 rfl), if_neg (q 5 rfl), if_neg (q 6 rfl), if_neg (q 7 rfl), if_neg (q 8 rfl), if_neg (q 9 rfl), if_neg (q 10 rfl), if_neg (q 11 rfl), if_neg (q 12 rfl), if_neg (q 13 rfl)]
theorem RR_words {nA nK : Nat} {E : Nat → Nat} {I : k_I} {J : k_J} (a : Int32) (h : RR nA nK E I J) : k_St RR nA nK E (I, J) (cWords nA J a) (mcWords E nA a (I, J)).1 nA nK (mcWords E nA a (I, J)).2 := by
  have k := mWork_eq h
  unfold cWords mcWords
  cases ha : kAns nA a with
  | none => exact k_St.same h rfl
  | some i =>
    have hi := kAns_b ha
    exact ⟨h.ms, (k.fw i hi).symm, E, h.of k.lo k.loJ⟩
theorem kAll_bits : ∀ k, k < 3 → ∀ n, n < 31 → bt (kAllV (nI k)) n = kWithin (nI n) 0 (if k = 0 then 7 else if k = 1 then 9 else 3) := by decide +kernel
theorem mIsV_k {k : Nat} (hk : k < 3) (v : Int32) : mIsV (nI k) v = kWithin v 0 (if k = 0 then 7 else if k = 1 then 9 else 3) := by
  rcases (show k = 0 ∨ k = 1 ∨ k = 2 by omega) with rfl | rfl | rfl
  · exact mIn_7
  · exact mIn_9
  · exact mIn_3
theorem kWithin_b {v B : Int32} (hB : B.toInt ≤ 30) (h : kWithin v 0 B = true) : ∃ n, n ≤ 30 ∧ v = nI n := by
  unfold kWithin at h
  simp only [Bool.and_eq_true, Bool.not_eq_true', decide_eq_false_iff_not] at h
  refine nI_of2 (M := 30) rfl h.1 ?_
  have h2 := h.2
  rw [Int32.lt_iff_toInt_lt] at h2
  rw [Int32.le_iff_toInt_le]
  have z : (30 : Int32).toInt = 30 := rfl
  omega
theorem kIsVal_m {k : Nat} (hk : k < 3) (v : Int32) : kIsVal (nI k) v = mIsV (nI k) v := by
  rw [mIsV_k hk]
  unfold kIsVal
  have hB : (if k = 0 then (7 : Int32) else if k = 1 then 9 else 3).toInt ≤ 30 := by
    rcases (show k = 0 ∨ k = 1 ∨ k = 2 by omega) with rfl | rfl | rfl <;> decide
  by_cases h0 : v < 0 ∨ 30 < v
  · have e : kBit v = 0 := by
      unfold kBit
      rcases h0 with h0 | h0
      · rw [if_pos h0]
      · rw [if_pos h0, ite_self]
    rw [e, Int32.and_zero]
    cases hc : kWithin v 0 (if k = 0 then 7 else if k = 1 then 9 else 3)
    · rfl
    · obtain ⟨n, hn, rfl⟩ := kWithin_b hB hc
      rcases h0 with h0 | h0
      · exact absurd h0 (nI_pos (by omega))
      · exact absurd h0 (show ¬ (30 : Int32) < nI n from nI_nlt (a := 30) (b := n) hn (by decide))
  · obtain ⟨n, hn, rfl⟩ := nI_of2 (M := 30) (n := 30) rfl (fun q => h0 (Or.inl q)) (by
      have h2 : ¬ (30 : Int32) < v := fun q => h0 (Or.inr q)
      rw [Int32.lt_iff_toInt_lt] at h2
      rw [Int32.le_iff_toInt_le]
      omega)
    rw [← kAll_bits k hk n (by omega)]
    have := b_and_bit (kAllV (nI k)) hn
    cases hb : bt (kAllV (nI k)) n
    · rw [decide_eq_true (this.mpr hb)]; rfl
    · rw [decide_eq_false (fun q => by rw [this.mp q] at hb; cases hb)]; rfl
theorem kHas_m {I W : k_I} {i k : Nat} {v : Int32} (hk : k < 3) (hW : W 41 0 (3 * i + k) = I 9 i k) (hv : mIsV (nI k) v = true) : kHas I i (nI k) v = mHas W (3 * i + k) v := by
  have hB : (if k = 0 then (7 : Int32) else if k = 1 then 9 else 3).toInt ≤ 30 := by
    rcases (show k = 0 ∨ k = 1 ∨ k = 2 by omega) with rfl | rfl | rfl <;> decide
  rw [mIsV_k hk] at hv
  obtain ⟨n, hn, rfl⟩ := kWithin_b hB hv
  unfold kHas mHas
  rw [kSet_n hk, hW]
  have h1 := b_and_bit (I 9 i k) hn
  have h2 := b_at1 (I 9 i k) (i := n) (by omega)
  cases hb : bt (I 9 i k) n
  · rw [decide_eq_true (h1.mpr hb), decide_eq_false (fun q => by rw [h2.mp q] at hb; cases hb)]; rfl
  · rw [decide_eq_false (fun q => by rw [h1.mp q] at hb; cases hb), decide_eq_true (h2.mpr hb)]; rfl
theorem RR_holds {nA nK : Nat} {E : Nat → Nat} {I : k_I} {J : k_J} (a x y z : Int32) (h : RR nA nK E I J) : k_St RR nA nK E (I, J) (cHolds nA I a x y z) (mcHolds E nA a x y z (I, J)).1 nA nK (mcHolds E nA a x y z (I, J)).2 := by
  have k := mWork_eq h
  unfold cHolds mcHolds
  cases ha : kAns nA a with
  | none => exact k_St.same h rfl
  | some i =>
    have hi := kAns_b ha
    simp only
    rw [show kIsVal 0 x = mIsV 0 x from kIsVal_m (k := 0) (by decide) x, show kIsVal 1 y = mIsV 1 y from kIsVal_m (k := 1) (by decide) y, show kIsVal 2 z = mIsV 2 z from kIsVal_m (k := 2) (by decide) z]
    by_cases hw : (mIsV 0 x && (mIsV 1 y && mIsV 2 z)) = true
    · simp only [if_pos hw]
      rw [Bool.and_eq_true, Bool.and_eq_true] at hw
      refine ⟨h.ms, ?_, E, h.of k.lo k.loJ⟩
      rw [show kHas I i 0 x = mHas (mWork E nA (I, J)).1 (3 * i) x from kHas_m (k := 0) (by decide) (k.fs i hi 0 (by decide)) hw.1, show kHas I i 1 y = mHas (mWork E nA (I, J)).1 (3 * i + 1) y from kHas_m (k := 1) (by decide) (k.fs i hi 1 (by decide)) hw.2.1, show kHas I i 2 z = mHas (mWork E nA (I, J)).1 (3 * i + 2) z from kHas_m (k := 2) (by decide) (k.fs i hi 2 (by decide)) hw.2.2, h.moved hi, Bool.not_not, k.lo 28 (by decide), Bool.and_comm]
    · simp only [if_neg hw]
      exact k_St.same h rfl
