/-! settle as a whole -/
theorem kAskF_v (nK : Nat) (I : k_I) (J : k_J) : (∀ c, c ≠ 11 → kAskF nK I J c = J c) ∧ (∀ q k, k ≠ 2 → kAskF nK I J 11 q k = J 11 q k) ∧ ∀ q, q < nK → kAskF nK I J 11 q 2 = kFold (I 2 0) (J 11 q 0) := by
  refine kLoop_i0 (step := fun k J => k_up J 11 k (vp_updL (J 11 k) 2 (kFold (I 2 0) (J 11 k 0)))) (fun n J' => (∀ c, c ≠ 11 → J' c = J c) ∧ (∀ q k, k ≠ 2 → J' 11 q k = J 11 q k) ∧ ∀ q, q < n → J' 11 q 2 = kFold (I 2 0) (J 11 q 0)) nK J ⟨fun _ _ => rfl, fun _ _ _ => rfl, fun q hq => absurd hq (Nat.not_lt_zero _)⟩ ?_
  rintro n J' hn ⟨h1, h2, h3⟩
  refine ⟨fun c hc => (k_up_C hc).trans (h1 c hc), fun q k hk => ?_, fun q hq => ?_⟩
  · by_cases hqn : q = n
    · subst hqn; rw [k_up_s, updL_n hk]; exact h2 q k hk
    · rw [k_up_i hqn]; exact h2 q k hk
  · by_cases hqn : q = n
    · subst hqn; rw [k_up_s, updL_s, h2 q 0 (by decide)]
    · rw [k_up_i hqn]; exact h3 q (by omega)
theorem kChg_D {nA nK : Nat} {E : Nat → Nat} {I : k_I} {J : k_J} (raw : k_Raw nA nK E I J) {i : Nat} (hi : i < nA) (hp : I 27 0 i = 0) : kChg I (I 8 i 6) (I 8 i 7) = true ↔ v_D1 I i := by
  unfold kChg v_D1
  rw [kAny_0, raw.bound i hi hp, raw.sure i hi hp]
  refine exists_congr fun t => and_congr_right fun ht => ?_
  rw [(raw.things t ht).2]
  simp only [Bool.and_eq_true, Bool.not_eq_true', decide_eq_false_iff_not]
  rw [b_and_bit _ (by omega), Bool.not_eq_false]
theorem kAllV_m {k : Nat} (hk : k < 3) : kAllV (nI k) = mAllOf (nI k) := by
  rcases (show k = 0 ∨ k = 1 ∨ k = 2 by omega) with rfl | rfl | rfl <;> decide
theorem g_T_plain {nA nK : Nat} {E : Nat → Nat} {I : k_I} {J : k_J} (raw : k_Raw nA nK E I J) {x p : Nat} (hx : x < nA) (hp : I 27 0 x = 0) : g_T E (I 35 0) (I 27 0) x p ↔ p = x := by
  rw [g_T_iff]
  constructor
  · rintro (⟨_, h⟩ | ⟨e, ⟨k, hk, hn, _⟩, _⟩)
    · exact h
    · exact absurd (raw.noparts x hx hp k hk) hn
  · rintro rfl
    exact Or.inl ⟨hp, rfl⟩
theorem k_Raw.uh {nA nK : Nat} {E : Nat → Nat} {I I' : k_I} {J : k_J} (raw : k_Raw nA nK E I J) (ms : m_S nA nK E I) (h0 : ∀ i, i < nA → I' 8 i 0 = I 8 i 0) (h9 : ∀ i, i < nA → I' 8 i 9 = I 8 i 9) (h10 : I' 10 = I 10) : k_UH nA E (I 35 0) I' :=
  ⟨ms.2.2.1, fun i hi => (h0 i hi).trans (raw.num i hi), fun i hi => (h9 i hi).trans (raw.ends i hi), fun i hi k hk => by rw [h10]; exact (raw.parts i hi k hk).1, fun i hi k hk => (raw.parts i hi k hk).2, fun i hi k hk hn => ms.part (by omega) hn, fun p hp => (ms.2.2.2.2.1 p hp).1⟩
theorem kSettle_all {nA nK : Nat} {E : Nat → Nat} {I : k_I} {J : k_J} (ms : m_S nA nK E I) (raw : k_Raw nA nK E I J) :
    ((∀ c, c ≠ 8 → c ≠ 9 → (kSettle nA nK (I, J)).1 c = I c) ∧ (∀ c, c ≠ 8 → c ≠ 11 → (kSettle nA nK (I, J)).2 c = J c) ∧ (∀ i, i < nA → ∀ k, k ≠ 6 → k ≠ 11 → k ≠ 12 → (kSettle nA nK (I, J)).1 8 i k = I 8 i k) ∧ (∀ i, i < nA → I 27 0 i = 0 → (kSettle nA nK (I, J)).1 8 i 6 = I 8 i 6 ∧ (kSettle nA nK (I, J)).1 9 i = I 9 i ∧ (kSettle nA nK (I, J)).2 8 i 5 = J 8 i 5) ∧ (∀ q k, k ≠ 2 → (kSettle nA nK (I, J)).2 11 q k = J 11 q k)) ∧
    (∀ i, i < nA → ∀ b, b < 64 → (bl ((kSettle nA nK (I, J)).2 8 i 5) b = true ↔ v_W E I J i b)) ∧
    (∀ i, i < nA → ∀ k, k < 3 → ∀ b, b < 32 → (bt ((kSettle nA nK (I, J)).1 9 i k) b = true ↔ v_S E I i k b)) ∧
    (∀ i, i < nA → ∀ b, b < 32 → (bt ((kSettle nA nK (I, J)).1 8 i 6) b = true ↔ v_B E I i b)) ∧
    (∀ i, i < nA → ((kSettle nA nK (I, J)).1 8 i 11 = 0 ∨ (kSettle nA nK (I, J)).1 8 i 11 = 1) ∧ (¬ (kSettle nA nK (I, J)).1 8 i 11 = 0 ↔ v_D E I i)) ∧
    (∀ i, i < nA → ∀ j, j < nA → (bt ((kSettle nA nK (I, J)).1 8 i 12) j = true ↔ g_U E (I 35 0) i j)) ∧
    (∀ i, i < nA → (kSettle nA nK (I, J)).2 8 i 10 = kFold (I 2 0) ((kSettle nA nK (I, J)).2 8 i 5)) ∧
    (∀ q, q < nK → (kSettle nA nK (I, J)).2 11 q 2 = kFold (I 2 0) (J 11 q 0)) := by
  have h24 := ms.2.2.1
  obtain ⟨a1, a2, a3, a4, a5⟩ := kSt1_f nA (I, J)
  simp only at a1 a2 a3 a4 a5
  obtain ⟨rk, hrk⟩ := raw.rank
  have uh : k_UH nA E (I 35 0) (kSt1 nA (I, J)).1 := raw.uh ms (fun i _ => a2 i 0 (by decide)) (fun i _ => a2 i 9 (by decide)) (a1 10 (by decide))
  obtain ⟨b1, b2⟩ := kUnd_p uh hrk
  obtain ⟨c1, c2, c3, c4⟩ := kSJall (nA := nA) (s := (kUnd nA (kSt1 nA (I, J)).1, (kSt1 nA (I, J)).2)) h24
  simp only at c1 c2 c3 c4
  have es : kSettle nA nK (I, J) = ((kLoop (kSJ nA) nA 0 (kUnd nA (kSt1 nA (I, J)).1, (kSt1 nA (I, J)).2)).1, kAskF nK (kLoop (kSJ nA) nA 0 (kUnd nA (kSt1 nA (I, J)).1, (kSt1 nA (I, J)).2)).1 (kLoop (kSJ nA) nA 0 (kUnd nA (kSt1 nA (I, J)).1, (kSt1 nA (I, J)).2)).2) := rfl
  rw [es]
  generalize kLoop (kSJ nA) nA 0 (kUnd nA (kSt1 nA (I, J)).1, (kSt1 nA (I, J)).2) = s3 at c1 c2 c3 c4 ⊢
  generalize kUnd nA (kSt1 nA (I, J)).1 = I2 at b1 b2 c1 c2 c3 c4 ⊢
  generalize kSt1 nA (I, J) = s1 at a1 a2 a3 a4 a5 b1 uh c1 c2 c3 c4 ⊢
  clear es
  obtain ⟨d1, d2, d3⟩ := kAskF_v nK s3.1 s3.2
  generalize kAskF nK s3.1 s3.2 = J4 at d1 d2 d3 ⊢
  simp only
  -- slots behind the first two parts
  have p1 : ∀ i, I2 8 i 1 = I 8 i 1 := fun i => (b1.2 i 1 (by decide)).trans (a2 i 1 (by decide))
  have hj4 : J4 8 = s3.2 8 := d1 8 (by decide)
  have pl : ∀ i, i < nA → I 27 0 i = 0 → s3.1 8 i = I2 8 i ∧ s3.1 9 i = I2 9 i ∧ s3.2 8 i = s1.2 8 i := fun i hi hp => c3 i (by rw [p1, (raw.kind i hi).1, hp]; decide)
  have e9 : I2 9 = I 9 := (b1.1 9 (by decide)).trans (a1 9 (by decide))
  have hd : ∀ i, i < nA → I 27 0 i = 0 → I2 8 i 11 = k_b (kChg I (I 8 i 6) (I 8 i 7)) ∧ s1.2 8 i 10 = kFold (I 2 0) (J 8 i 5) := fun i hi hp => by
    have := a5 i hi (by rw [(raw.kind i hi).1]; exact hp)
    exact ⟨(b1.2 i 11 (by decide)).trans this.1, this.2⟩
  have e6 : ∀ i, I2 8 i 6 = I 8 i 6 := fun i => (b1.2 i 6 (by decide)).trans (a2 i 6 (by decide))
  have e2 : s3.1 2 = I 2 := (c1 2 (by decide) (by decide)).trans ((b1.1 2 (by decide)).trans (a1 2 (by decide)))
  have e22 : I2 2 = I 2 := (b1.1 2 (by decide)).trans (a1 2 (by decide))
  have kdec : ∀ i, i < nA → I 27 0 i = 0 ∨ I2 8 i 1 = 1 := fun i hi => by
    rcases (raw.kind i hi).2 with h | h
    · exact Or.inl h
    · exact Or.inr (by rw [p1, (raw.kind i hi).1]; exact h)
  have hQ : ∀ i, i < nA → I2 8 i 1 = 1 → ∀ p, p < nA → (k_Q0 (I2, s1.2) i p ↔ g_T E (I 35 0) (I 27 0) i p) := fun i hi hji p hp => by
    unfold k_Q0 g_T
    simp only
    rw [p1, (raw.kind p hp).1, b2 i p hi hp]
    refine and_congr_right fun hk => ⟨fun h => Or.inr h, fun h => h.resolve_left ?_⟩
    rintro rfl
    rw [p1, (raw.kind p hp).1, hk] at hji
    exact absurd hji (by decide)
  have hTl : ∀ i p, i < nA → g_T E (I 35 0) (I 27 0) i p → p < nA := fun i p hi ht => g_T_lt ms hi ht
  refine ⟨⟨fun c h8 h9 => (c1 c h8 h9).trans ((b1.1 c h8).trans (a1 c h8)), fun c h8 h11 => (d1 c h11).trans ((c2 c h8).trans (a3 c h8)), fun i hi k h6 h11 h12 => ((c4 i hi).1 k h6 h11).trans ((b1.2 i k h12).trans (a2 i k h11)), fun i hi hp => ?_, fun q k hk => ?_⟩, fun i hi b hb => ?_, fun i hi k hk b hb => ?_, fun i hi b hb => ?_, fun i hi => ?_, fun i hi j hj => ?_, fun i hi => ?_, fun q hq => ?_⟩
  · obtain ⟨q1, q2, q3⟩ := pl i hi hp
    exact ⟨by rw [q1]; exact e6 i, by rw [q2, e9], by rw [hj4, q3]; exact a4 i 5 (by decide)⟩
  · rw [d2 q k hk, c2 11 (by decide), a3 11 (by decide)]
  · rw [hj4]
    rcases kdec i hi with hp | hj
    · rw [(pl i hi hp).2.2, a4 i 5 (by decide), raw.words i hi hp]
      unfold v_W
      constructor
      · intro h; exact ⟨i, (g_T_plain raw hi hp).mpr rfl, h⟩
      · rintro ⟨p, ht, h⟩
        rw [(g_T_plain raw hi hp).mp ht] at h; exact h
    · rw [((c4 i hi).2 hj).1.fw b]
      unfold v_W
      constructor
      · rintro ⟨p, hp, hq, h⟩
        refine ⟨p, (hQ i hi hj p hp).mp hq, ?_⟩
        rw [← raw.words p hp ((hQ i hi hj p hp).mp hq).1, ← a4 p 5 (by decide)]; exact h
      · rintro ⟨p, ht, h⟩
        have hp := hTl i p hi ht
        refine ⟨p, hp, (hQ i hi hj p hp).mpr ht, ?_⟩
        show bl (s1.2 8 p 5) b = true
        rw [a4 p 5 (by decide), raw.words p hp ht.1]; exact h
  · rcases kdec i hi with hp | hj
    · rw [(pl i hi hp).2.1, e9, (raw.sets i hi hp k hk).1]
      unfold v_S
      constructor
      · intro h
        refine ⟨Or.inl hp, fun p ht => ?_⟩
        rw [(g_T_plain raw hi hp).mp ht]; exact h
      · rintro ⟨-, h⟩
        exact h i ((g_T_plain raw hi hp).mpr rfl)
    · rw [((c4 i hi).2 hj).1.fs k hk b, kAllV_m hk]
      have hk1 : ¬ I 27 0 i = 0 := fun h => by rw [p1, (raw.kind i hi).1, h] at hj; exact absurd hj (by decide)
      unfold v_S
      refine and_congr ⟨fun h => Or.inr h, fun h => h.resolve_left hk1⟩ ⟨fun h p ht => ?_, fun h p hp hq => ?_⟩
      · have hp := hTl i p hi ht
        have := h p hp ((hQ i hi hj p hp).mpr ht)
        rw [← (raw.sets p hp ht.1 k hk).1, ← e9]; exact this
      · have ht := (hQ i hi hj p hp).mp hq
        show bt (I2 9 p k) b = true
        rw [e9, (raw.sets p hp ht.1 k hk).1]; exact h p ht
  · rcases kdec i hi with hp | hj
    · rw [(pl i hi hp).1, e6 i, raw.bound i hi hp]
      unfold v_B
      constructor
      · intro h; exact ⟨i, (g_T_plain raw hi hp).mpr rfl, h⟩
      · rintro ⟨p, ht, h⟩
        rw [(g_T_plain raw hi hp).mp ht] at h; exact h
    · rw [((c4 i hi).2 hj).1.ft b]
      unfold v_B
      constructor
      · rintro ⟨p, hp, hq, h⟩
        refine ⟨p, (hQ i hi hj p hp).mp hq, ?_⟩
        rw [← raw.bound p hp ((hQ i hi hj p hp).mp hq).1, ← e6 p]; exact h
      · rintro ⟨p, ht, h⟩
        have hp := hTl i p hi ht
        refine ⟨p, hp, (hQ i hi hj p hp).mpr ht, ?_⟩
        show bt (I2 8 p 6) b = true
        rw [e6 p, raw.bound p hp ht.1]; exact h
  · have hkb : ∀ p, p < nA → I 27 0 p = 0 → (¬ I2 8 p 11 = 0 ↔ v_D1 I p) := fun p hp hk => by
      rw [(hd p hp hk).1, ← kChg_D raw hp hk]
      cases kChg I (I 8 p 6) (I 8 p 7)
      · exact ⟨fun h => absurd rfl h, fun h => by cases h⟩
      · exact ⟨fun _ => rfl, fun _ => by decide⟩
    rcases kdec i hi with hp | hj
    · rw [(pl i hi hp).1]
      refine ⟨?_, (hkb i hi hp).trans ?_⟩
      · rw [(hd i hi hp).1]
        cases kChg I (I 8 i 6) (I 8 i 7)
        · exact Or.inl rfl
        · exact Or.inr rfl
      · unfold v_D
        constructor
        · intro h; exact ⟨i, (g_T_plain raw hi hp).mpr rfl, h⟩
        · rintro ⟨p, ht, h⟩
          rw [(g_T_plain raw hi hp).mp ht] at h; exact h
    · have g := ((c4 i hi).2 hj).1.fd
      refine ⟨g.1, g.2.trans ?_⟩
      unfold v_D
      constructor
      · rintro ⟨p, hp, hq, h⟩
        have ht := (hQ i hi hj p hp).mp hq
        exact ⟨p, ht, (hkb p hp ht.1).mp h⟩
      · rintro ⟨p, ht, h⟩
        have hp := hTl i p hi ht
        exact ⟨p, hp, (hQ i hi hj p hp).mpr ht, (hkb p hp ht.1).mpr h⟩
  · rw [(c4 i hi).1 12 (by decide) (by decide)]
    exact b2 i j hi hj
  · rw [hj4]
    rcases kdec i hi with hp | hj
    · rw [(pl i hi hp).2.2, (hd i hi hp).2, a4 i 5 (by decide)]
    · have g := ((c4 i hi).2 hj).2
      rw [g]
      show kFold (I2 2 0) _ = _
      rw [e22]
  · rw [d3 q hq, e2, c2 11 (by decide), a3 11 (by decide)]
/-- the closed forms look at the reference's slots alone -/
theorem v_of {E : Nat → Nat} {I I' : k_I} {J J' : k_J} (h : ∀ c, 20 ≤ c → c < 39 → I' c = I c) (hj : J' 29 = J 29) : v_W E I' J' = v_W E I J ∧ v_S E I' = v_S E I ∧ v_B E I' = v_B E I ∧ v_D E I' = v_D E I := by
  unfold v_W v_S v_B v_D v_D1
  rw [h 35 (by decide) (by decide), h 27 (by decide) (by decide), h 31 (by decide) (by decide), h 32 (by decide) (by decide), h 33 (by decide) (by decide), h 22 (by decide) (by decide), hj]
  exact ⟨rfl, rfl, rfl, rfl⟩
theorem RR_settle {nA nK : Nat} {E : Nat → Nat} {I : k_I} {J : k_J} (ks : k_S nA nK I) (ms : m_S nA nK E I) (z6 : ∀ j, nA ≤ j → I 6 0 j = 0) (z7 : ∀ j, nK ≤ j → I 7 0 j = 0) (raw : k_Raw nA nK E I J) (led : g_Led nA I) : RR nA nK E (kSettle nA nK (I, J)).1 (kSettle nA nK (I, J)).2 := by
  obtain ⟨⟨f1, f2, f3, f4, f5⟩, w, st, t, d, u, f, a⟩ := kSettle_all ms raw
  generalize kSettle nA nK (I, J) = r at f1 f2 f3 f4 f5 w st t d u f a ⊢
  obtain ⟨v1, v2, v3, v4⟩ := v_of (E := E) (I := I) (I' := r.1) (J := J) (J' := r.2) (fun c h1 h2 => f1 c (by omega) (by omega)) (f2 29 (by decide) (by decide))
  have q : ∀ c, c ≠ 8 → c ≠ 9 → r.1 c = I c := f1
  refine ⟨ks.of (q 0 (by decide) (by decide)) (q 6 (by decide) (by decide)) (q 7 (by decide) (by decide)), ms.low (q 13 (by decide) (by decide)) (q 28 (by decide) (by decide)) (q 35 (by decide) (by decide)), fun j hj => by rw [q 6 (by decide) (by decide)]; exact z6 j hj, fun j hj => by rw [q 7 (by decide) (by decide)]; exact z7 j hj, ?_, ?_, by unfold g_Led; rw [q 28 (by decide) (by decide)]; exact led⟩
  · refine ⟨?_, ?_, ?_, ?_, ?_, ?_, ?_, ?_, ?_, ?_, ?_, ?_, ?_, ?_, ?_, ?_, ?_, ?_, ?_, ?_⟩
    · rw [q 0 (by decide) (by decide), q 13 (by decide) (by decide)]; exact raw.near
    · rw [q 0 (by decide) (by decide), q 13 (by decide) (by decide)]; exact raw.lim
    · rw [q 2 (by decide) (by decide), q 20 (by decide) (by decide)]; exact raw.fold
    · rw [q 3 (by decide) (by decide), q 13 (by decide) (by decide)]; exact raw.clock
    · rw [q 4 (by decide) (by decide), q 5 (by decide) (by decide), q 21 (by decide) (by decide), q 22 (by decide) (by decide)]; exact raw.things
    · intro i hi; rw [f3 i hi 0 (by decide) (by decide) (by decide)]; exact raw.num i hi
    · intro i hi; rw [f3 i hi 1 (by decide) (by decide) (by decide), q 27 (by decide) (by decide)]; exact raw.kind i hi
    · intro i hi; rw [f3 i hi 2 (by decide) (by decide) (by decide), q 30 (by decide) (by decide)]; exact raw.steps i hi
    · intro i hi; rw [f3 i hi 9 (by decide) (by decide) (by decide)]; exact raw.ends i hi
    · intro i hi; rw [f3 i hi 8 (by decide) (by decide) (by decide), q 34 (by decide) (by decide)]; exact raw.votes i hi
    · rw [q 10 (by decide) (by decide), q 35 (by decide) (by decide)]; exact raw.parts
    · rw [q 35 (by decide) (by decide)]; exact raw.pre
    · rw [q 27 (by decide) (by decide), q 35 (by decide) (by decide)]; exact raw.noparts
    · intro i hi hp
      rw [q 27 (by decide) (by decide)] at hp
      rw [(f4 i hi hp).2.2, f2 29 (by decide) (by decide)]; exact raw.words i hi hp
    · intro i hi hp k hk
      rw [q 27 (by decide) (by decide)] at hp
      rw [(f4 i hi hp).2.1, q 31 (by decide) (by decide)]; exact raw.sets i hi hp k hk
    · intro i hi hp
      rw [q 27 (by decide) (by decide)] at hp
      rw [(f4 i hi hp).1, q 32 (by decide) (by decide)]; exact raw.bound i hi hp
    · intro i hi hp
      rw [q 27 (by decide) (by decide)] at hp
      rw [f3 i hi 7 (by decide) (by decide) (by decide), q 33 (by decide) (by decide)]; exact raw.sure i hi hp
    · intro k hk; rw [f5 k 0 (by decide), f2 37 (by decide) (by decide)]; exact raw.askw k hk
    · rw [q 12 (by decide) (by decide), q 38 (by decide) (by decide)]; exact raw.askv
    · rw [q 35 (by decide) (by decide)]; exact raw.rank
  · refine ⟨?_, ?_, ?_, ?_, ?_, ?_, ?_⟩
    · rw [v1]; exact w
    · rw [v2]; exact st
    · rw [v3]; exact t
    · rw [v4]; exact d
    · rw [q 35 (by decide) (by decide)]; exact u
    · rw [q 2 (by decide) (by decide)]; exact f
    · intro k hk; rw [q 2 (by decide) (by decide), f5 k 0 (by decide)]; exact a k hk
