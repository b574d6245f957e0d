/-! join -/
theorem g_ct_add {P : Nat → Bool} {r : Nat} : ∀ {n : Nat}, r < n → g_ct (fun i => P i || decide (i = r)) n = g_ct P n + (if P r = true then 0 else 1)
  | 0, h => absurd h (Nat.not_lt_zero _)
  | n + 1, h => by
    rw [g_ct_s, g_ct_s]
    by_cases hr : r = n
    · subst hr
      rw [g_ct_cg (n := r) (p := fun i => P i || decide (i = r)) (q := P) (fun k hk => by rw [decide_eq_false (by omega), Bool.or_false]), decide_eq_true rfl, Bool.or_true, if_pos rfl]
      split <;> omega
    · rw [g_ct_add (n := n) (by omega), decide_eq_false (fun q => hr q.symm), Bool.or_false]
      split <;> split <;> omega
theorem g_ct_0 : ∀ n, g_ct (fun _ => false) n = 0
  | 0 => rfl
  | n + 1 => by
    rw [g_ct_s, g_ct_0 n]; rfl
theorem g_ct_1 {p n : Nat} (h : p < n) : g_ct (fun i => decide (i = p)) n = 1 := by
  have := g_ct_add (P := fun _ => false) h
  simp only [Bool.false_or] at this
  rw [this, g_ct_0]; rfl
theorem kJoin_b (a b c d : Int32) (i : Nat) : bt (kJoinX a b c d) i = (bt (kBit a) i || bt (kBit b) i || bt (kBit c) i || bt (kBit d) i) := by
  unfold kJoinX
  rw [b_or, b_or, b_or]
theorem kBit_m1 (i : Nat) : bt (kBit (-1)) i = false := b_0 i
theorem kJoin_2 {p q : Nat} (hp : p < 24) (hq : q < 24) : kBC32 (kJoinX (nI p) (nI q) (-1) (-1)) = nI (1 + (if q = p then 0 else 1)) ∧ ∀ i, i < 32 → (bt (kJoinX (nI p) (nI q) (-1) (-1)) i = true ↔ i = p ∨ i = q) := by
  have e : ∀ i, i < 32 → bt (kJoinX (nI p) (nI q) (-1) (-1)) i = (decide (i = p) || decide (i = q)) := fun i hi => by
    rw [kJoin_b, b_bit (by omega) hi, b_bit (by omega) hi, kBit_m1, Bool.or_false, Bool.or_false]
  refine ⟨?_, fun i hi => by rw [e i hi]; simp⟩
  rw [kBC32_v, g_ct_cg e, g_ct_add (P := fun i => decide (i = p)) (r := q) (by omega), g_ct_1 (by omega)]
  simp only [decide_eq_true_eq]
theorem kJoin_3 {p q r : Nat} (hp : p < 24) (hq : q < 24) (hr : r < 24) : kBC32 (kJoinX (nI p) (nI q) (nI r) (-1)) = nI (1 + (if q = p then 0 else 1) + (if r = p ∨ r = q then 0 else 1)) ∧ ∀ i, i < 32 → (bt (kJoinX (nI p) (nI q) (nI r) (-1)) i = true ↔ (i = p ∨ i = q) ∨ i = r) := by
  have e : ∀ i, i < 32 → bt (kJoinX (nI p) (nI q) (nI r) (-1)) i = ((decide (i = p) || decide (i = q)) || decide (i = r)) := fun i hi => by
    rw [kJoin_b, b_bit (by omega) hi, b_bit (by omega) hi, b_bit (by omega) hi, kBit_m1, Bool.or_false]
  refine ⟨?_, fun i hi => by rw [e i hi]; simp⟩
  rw [kBC32_v, g_ct_cg e, g_ct_add (P := fun i => decide (i = p) || decide (i = q)) (r := r) (by omega), g_ct_add (P := fun i => decide (i = p)) (r := q) (by omega), g_ct_1 (by omega)]
  simp only [decide_eq_true_eq, Bool.or_eq_true]
theorem kJoin_4 {p q r u : Nat} (hp : p < 24) (hq : q < 24) (hr : r < 24) (hu : u < 24) : kBC32 (kJoinX (nI p) (nI q) (nI r) (nI u)) = nI (1 + (if q = p then 0 else 1) + (if r = p ∨ r = q then 0 else 1) + (if (u = p ∨ u = q) ∨ u = r then 0 else 1)) ∧ ∀ i, i < 32 → (bt (kJoinX (nI p) (nI q) (nI r) (nI u)) i = true ↔ ((i = p ∨ i = q) ∨ i = r) ∨ i = u) := by
  have e : ∀ i, i < 32 → bt (kJoinX (nI p) (nI q) (nI r) (nI u)) i = (((decide (i = p) || decide (i = q)) || decide (i = r)) || decide (i = u)) := fun i hi => by
    rw [kJoin_b, b_bit (by omega) hi, b_bit (by omega) hi, b_bit (by omega) hi, b_bit (by omega) hi]
  refine ⟨?_, fun i hi => by rw [e i hi]; simp⟩
  rw [kBC32_v, g_ct_cg e, g_ct_add (P := fun i => (decide (i = p) || decide (i = q)) || decide (i = r)) (r := u) (by omega), g_ct_add (P := fun i => decide (i = p) || decide (i = q)) (r := r) (by omega), g_ct_add (P := fun i => decide (i = p)) (r := q) (by omega), g_ct_1 (by omega)]
  simp only [decide_eq_true_eq, Bool.or_eq_true]
theorem kAllPlain_m {nA nK : Nat} {E : Nat → Nat} {I : k_I} {J : k_J} (h : RR nA nK E I J) (x : Int32) : kAllPlain nA I x = true ↔ ∀ i, i < nA → bt x i = true → mPl I i = true := by
  have h24 := h.ms.2.2.1
  unfold kAllPlain
  rw [Bool.not_eq_true', Bool.eq_false_iff, ne_eq, kAny_0]
  constructor
  · intro hc i hi hb
    refine Classical.byContradiction fun hm => hc ⟨i, hi, ?_⟩
    rw [Bool.and_eq_true, Bool.not_eq_true', Bool.not_eq_true', decide_eq_false_iff_not, decide_eq_false_iff_not]
    refine ⟨fun q => ?_, fun q => hm ((h.plain hi).mp q)⟩
    rw [b_and_bit x (by omega)] at q
    rw [q] at hb; cases hb
  · rintro hc ⟨i, hi, hb⟩
    rw [Bool.and_eq_true, Bool.not_eq_true', Bool.not_eq_true', decide_eq_false_iff_not, decide_eq_false_iff_not] at hb
    refine hb.2 ((h.plain hi).mpr (hc i hi ?_))
    cases hx : bt x i
    · exact absurd ((b_and_bit x (by omega)).mpr hx) hb.1
    · rfl
theorem kIsA_m {n : Nat} (hn : n < 2 ^ 31) (a : Int32) : kIsA n a = mIs n a := by
  cases hm : mIs n a
  · have := mIs_none hn hm
    unfold kAns at this
    unfold kIsA
    by_cases h0 : a < 0
    · rw [decide_eq_true h0]; rfl
    · rw [if_neg h0] at this
      by_cases h1 : nI n ≤ a
      · rw [decide_eq_true h1, Bool.not_true, Bool.and_false]
      · rw [if_neg h1] at this; cases this
  · obtain ⟨i, hi, rfl⟩ := mIs_nat hn hm
    unfold kIsA
    rw [decide_eq_false (nI_pos (by omega)), decide_eq_false (nI_ge hi hn)]; rfl
theorem mPlX_n {nA i : Nat} (h24 : nA ≤ 24) (hi : i < nA) (I : k_I) : mPlX nA I (nI i) = mPl I i := by
  unfold mPlX
  rw [kAns_nI hi (by omega)]
theorem mPlX_m1 (nA : Nat) (I : k_I) : mPlX nA I (-1) = true := rfl
theorem nI_m1 {n : Nat} (h : n < 2 ^ 31) : ¬ nI n = -1 := fun q => nI_pos h (by rw [q]; decide)
theorem nI_m1' {n : Nat} (h : n < 2 ^ 31) : ¬ (-1 : Int32) = nI n := fun q => nI_pos h (by rw [← q]; decide)
theorem kJoinOk_m {nA nK : Nat} {E : Nat → Nat} {I : k_I} {J : k_J} (h : RR nA nK E I J) {p q : Nat} {c d : Int32} (hp : p < nA) (hq : q < nA) (hc : c = -1 ∨ ∃ r, r < nA ∧ c = nI r) (hd : d = -1 ∨ ∃ u, u < nA ∧ d = nI u) : cJoinOk2 nA I (nI p) (nI q) c d = ((mPlX nA I (nI p) && (mPlX nA I (nI q) && (mPlX nA I c && mPlX nA I d))) && (mUnl (nI p) (nI q) c d && !(decide (c < 0) && !decide (d < 0)))) := by
  have h24 := h.ms.2.2.1
  refine bool_iff ?_
  unfold cJoinOk2 mUnl kJoinN
  simp only [Bool.and_eq_true, kAllPlain_m h, mPlX_n h24 hp, mPlX_n h24 hq, Bool.or_eq_true, Bool.not_eq_true', decide_eq_true_eq, decide_eq_false_iff_not, Bool.and_eq_false_iff, Bool.not_eq_false', nI_eq (show p < 2 ^ 31 by omega) (show q < 2 ^ 31 by omega)]
  rcases hc with rfl | ⟨r, hr, rfl⟩
  · rcases hd with rfl | ⟨u, hu, rfl⟩
    · obtain ⟨e1, e2⟩ := kJoin_2 (p := p) (q := q) (by omega) (by omega)
      have e3 : (∀ i, i < nA → bt (kJoinX (nI p) (nI q) (-1) (-1)) i = true → mPl I i = true) ↔ mPl I p = true ∧ mPl I q = true := by
        constructor
        · intro z
          exact ⟨z p hp ((e2 p (by omega)).mpr (Or.inl rfl)), z q hq ((e2 q (by omega)).mpr (Or.inr rfl))⟩
        · rintro ⟨z1, z2⟩ i hi hb
          rcases (e2 i (by omega)).mp hb with rfl | rfl
          · exact z1
          · exact z2
      rw [e1, e3, if_pos rfl, show (2 : Int32) = nI 2 from rfl, nI_eq (by split <;> omega) (by decide), mPlX_m1]
      have m1 := nI_m1 (n := p) (by omega)
      have m2 := nI_m1 (n := q) (by omega)
      have m3 : (-1 : Int32) < 0 := by decide
      by_cases hpq : p = q
      · subst hpq; simp
      · have hqp : ¬ q = p := fun z => hpq z.symm
        simp [hpq, hqp, m1, m2]
    · have m1 := nI_m1 (n := u) (by omega)
      have m2 := nI_pos (n := u) (by omega)
      simp [m1, m2]
  · have mr := nI_m1 (n := r) (by omega)
    have mr2 := nI_pos (n := r) (by omega)
    rw [nI_eq (show p < 2 ^ 31 by omega) (show r < 2 ^ 31 by omega), nI_eq (show q < 2 ^ 31 by omega) (show r < 2 ^ 31 by omega), mPlX_n h24 hr, if_neg mr]
    rcases hd with rfl | ⟨u, hu, rfl⟩
    · obtain ⟨e1, e2⟩ := kJoin_3 (p := p) (q := q) (r := r) (by omega) (by omega) (by omega)
      have e3 : (∀ i, i < nA → bt (kJoinX (nI p) (nI q) (nI r) (-1)) i = true → mPl I i = true) ↔ mPl I p = true ∧ mPl I q = true ∧ mPl I r = true := by
        constructor
        · intro z
          exact ⟨z p hp ((e2 p (by omega)).mpr (Or.inl (Or.inl rfl))), z q hq ((e2 q (by omega)).mpr (Or.inl (Or.inr rfl))), z r hr ((e2 r (by omega)).mpr (Or.inr rfl))⟩
        · rintro ⟨z1, z2, z3⟩ i hi hb
          rcases (e2 i (by omega)).mp hb with (rfl | rfl) | rfl
          · exact z1
          · exact z2
          · exact z3
      have e4 : 1 + (if q = p then 0 else 1) + (if r = p ∨ r = q then 0 else 1) = 3 ↔ ¬ p = q ∧ ¬ p = r ∧ ¬ q = r := by
        split <;> split <;> omega
      rw [e1, e3, if_pos rfl, show (3 : Int32) = nI 3 from rfl, nI_eq (by split <;> split <;> omega) (by decide), mPlX_m1, e4]
      have m1 := nI_m1 (n := p) (by omega)
      have m2 := nI_m1 (n := q) (by omega)
      simp only [m1, m2, mr, mr2, not_false_eq_true, true_and, and_true, true_or, false_or, or_true]
      constructor
      · rintro ⟨⟨z1, z2, z3⟩, z4, z5, z6⟩; exact ⟨⟨z4, z5, z6⟩, z1, z2, z3⟩
      · rintro ⟨⟨z4, z5, z6⟩, z1, z2, z3⟩; exact ⟨⟨z1, z2, z3⟩, z4, z5, z6⟩
    · obtain ⟨e1, e2⟩ := kJoin_4 (p := p) (q := q) (r := r) (u := u) (by omega) (by omega) (by omega) (by omega)
      have mu := nI_m1 (n := u) (by omega)
      have mu2 := nI_pos (n := u) (by omega)
      have e3 : (∀ i, i < nA → bt (kJoinX (nI p) (nI q) (nI r) (nI u)) i = true → mPl I i = true) ↔ mPl I p = true ∧ mPl I q = true ∧ mPl I r = true ∧ mPl I u = true := by
        constructor
        · intro z
          exact ⟨z p hp ((e2 p (by omega)).mpr (Or.inl (Or.inl (Or.inl rfl)))), z q hq ((e2 q (by omega)).mpr (Or.inl (Or.inl (Or.inr rfl)))), z r hr ((e2 r (by omega)).mpr (Or.inl (Or.inr rfl))), z u hu ((e2 u (by omega)).mpr (Or.inr rfl))⟩
        · rintro ⟨z1, z2, z3, z4⟩ i hi hb
          rcases (e2 i (by omega)).mp hb with ((rfl | rfl) | rfl) | rfl
          · exact z1
          · exact z2
          · exact z3
          · exact z4
      have e4 : 1 + (if q = p then 0 else 1) + (if r = p ∨ r = q then 0 else 1) + (if (u = p ∨ u = q) ∨ u = r then 0 else 1) = 4 ↔ ¬ p = q ∧ ¬ p = r ∧ ¬ q = r ∧ ¬ p = u ∧ ¬ q = u ∧ ¬ r = u := by
        split <;> split <;> split <;> omega
      rw [e1, e3, if_neg mu, show (4 : Int32) = nI 4 from rfl, nI_eq (by split <;> split <;> split <;> omega) (by decide), mPlX_n h24 hu, e4, nI_eq (show p < 2 ^ 31 by omega) (show u < 2 ^ 31 by omega), nI_eq (show q < 2 ^ 31 by omega) (show u < 2 ^ 31 by omega), nI_eq (show r < 2 ^ 31 by omega) (show u < 2 ^ 31 by omega)]
      simp only [mr, mr2, not_false_eq_true, true_and, and_true, true_or, or_false]
      constructor
      · rintro ⟨⟨z1, z2, z3, z4, z5, z6⟩, y1, y2, y3, y4⟩; exact ⟨⟨y1, y2, y3, y4⟩, z1, z2, z3, z4, z5, z6⟩
      · rintro ⟨⟨y1, y2, y3, y4⟩, z1, z2, z3, z4, z5, z6⟩; exact ⟨⟨z1, z2, z3, z4, z5, z6⟩, y1, y2, y3, y4⟩
