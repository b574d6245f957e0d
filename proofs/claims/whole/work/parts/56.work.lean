/-! the reference's work, in closed form -/
theorem mw_s {c j : Nat} {x : Int32} {I : k_I} : mw c j x I c 0 = upd (I c 0) j x := k_up_s
theorem mwJ_s {c j : Nat} {x : Int64} {J : k_J} : mwJ c j x J c 0 = vp_updL (J c 0) j x := k_up_s
theorem mwJ_C {c j : Nat} {x : Int64} {J : k_J} {c' : Nat} (h : c' ≠ c) : mwJ c j x J c' = J c' := k_up_C h
/-- what work on a leaves as it is -/
abbrev k_FM (a : Nat) (s r : k_IJ) : Prop := (∀ c, c < 39 → r.1 c = s.1 c) ∧ (∀ c, c < 39 → r.2 c = s.2 c) ∧ (∀ x, x ≠ a → r.1 39 0 x = s.1 39 0 x) ∧ (∀ x, x ≠ a → r.2 40 0 x = s.2 40 0 x) ∧ (∀ x, x ≠ a → ∀ k, k < 3 → r.1 41 0 (3 * x + k) = s.1 41 0 (3 * x + k)) ∧ (∀ x, x ≠ a → r.1 42 0 x = s.1 42 0 x) ∧ (∀ x, x ≠ a → r.1 43 0 x = s.1 43 0 x)
theorem k_FM.lo {a : Nat} {s r : k_IJ} (h_ : k_FM a s r) : ∀ c, c < 39 → r.1 c = s.1 c := h_.1
theorem k_FM.loJ {a : Nat} {s r : k_IJ} (h_ : k_FM a s r) : ∀ c, c < 39 → r.2 c = s.2 c := h_.2.1
theorem k_FM.k39 {a : Nat} {s r : k_IJ} (h_ : k_FM a s r) : ∀ x, x ≠ a → r.1 39 0 x = s.1 39 0 x := h_.2.2.1
theorem k_FM.k40 {a : Nat} {s r : k_IJ} (h_ : k_FM a s r) : ∀ x, x ≠ a → r.2 40 0 x = s.2 40 0 x := h_.2.2.2.1
theorem k_FM.k41 {a : Nat} {s r : k_IJ} (h_ : k_FM a s r) : ∀ x, x ≠ a → ∀ k, k < 3 → r.1 41 0 (3 * x + k) = s.1 41 0 (3 * x + k) := h_.2.2.2.2.1
theorem k_FM.k42 {a : Nat} {s r : k_IJ} (h_ : k_FM a s r) : ∀ x, x ≠ a → r.1 42 0 x = s.1 42 0 x := h_.2.2.2.2.2.1
theorem k_FM.k43 {a : Nat} {s r : k_IJ} (h_ : k_FM a s r) : ∀ x, x ≠ a → r.1 43 0 x = s.1 43 0 x := h_.2.2.2.2.2.2
theorem k_FM.rf (a : Nat) (s : k_IJ) : k_FM a s s := ⟨fun _ _ => rfl, fun _ _ => rfl, fun _ _ => rfl, fun _ _ => rfl, fun _ _ _ _ => rfl, fun _ _ => rfl, fun _ _ => rfl⟩
theorem k_FM.tr {a : Nat} {s r q : k_IJ} (h : k_FM a s r) (g : k_FM a r q) : k_FM a s q :=
  ⟨fun c hc => (g.lo c hc).trans (h.lo c hc), fun c hc => (g.loJ c hc).trans (h.loJ c hc), fun x hx => (g.k39 x hx).trans (h.k39 x hx), fun x hx => (g.k40 x hx).trans (h.k40 x hx), fun x hx k hk => (g.k41 x hx k hk).trans (h.k41 x hx k hk), fun x hx => (g.k42 x hx).trans (h.k42 x hx), fun x hx => (g.k43 x hx).trans (h.k43 x hx)⟩
theorem mWPs_v {a : Nat} {I : k_I} : (∀ k, k < 3 → mWPs a I 41 0 (3 * a + k) = I 31 0 (3 * a + k)) ∧ (∀ x, x ≠ a → ∀ k, k < 3 → mWPs a I 41 0 (3 * x + k) = I 41 0 (3 * x + k)) ∧ ∀ c, c ≠ 41 → mWPs a I c = I c := by
  have key := kLoop_i0 (step := fun k I => mw 41 (3 * a + k) (I 31 0 (3 * a + k)) I) (fun n I' => (∀ k, k < n → I' 41 0 (3 * a + k) = I 31 0 (3 * a + k)) ∧ (∀ x, x ≠ a → ∀ k, k < 3 → I' 41 0 (3 * x + k) = I 41 0 (3 * x + k)) ∧ ∀ c, c ≠ 41 → I' c = I c) 3 I ⟨fun k hk => absurd hk (Nat.not_lt_zero _), fun _ _ _ _ => rfl, fun _ _ => rfl⟩ (by
    rintro n I' hn ⟨h1, h2, h3⟩
    refine ⟨fun k hk => ?_, fun x hx k hk => ?_, fun c hc => (mw_C hc).trans (h3 c hc)⟩
    · rw [mw_s]
      by_cases hkn : k = n
      · subst hkn; rw [upd_s, h3 31 (by decide)]
      · rw [upd_n (by omega)]; exact h1 k (by omega)
    · rw [mw_s, upd_n (by omega)]; exact h2 x hx k hk)
  exact key
theorem mWPd_v {a : Nat} {I : k_I} (h0 : I 43 0 a = 0) : (¬ mWPd a I 43 0 a = 0 ↔ v_D1 I a) ∧ (∀ x, x ≠ a → mWPd a I 43 0 x = I 43 0 x) ∧ ∀ c, c ≠ 43 → mWPd a I c = I c := by
  have key := kLoop_i0 (step := mWPd1 a) (fun n I' => (¬ I' 43 0 a = 0 ↔ ∃ t, t < n ∧ bt (I 32 0 a) t = true ∧ ¬ I 22 0 t ≤ I 33 0 a) ∧ (∀ x, x ≠ a → I' 43 0 x = I 43 0 x) ∧ ∀ c, c ≠ 43 → I' c = I c) 10 I ⟨⟨fun h => absurd h0 h, fun ⟨t, ht, _⟩ => absurd ht (Nat.not_lt_zero _)⟩, fun _ _ => rfl, fun _ _ => rfl⟩ (by
    rintro n I' hn ⟨h1, h2, h3⟩
    unfold mWPd1
    refine ⟨?_, fun x hx => by rw [mw_s, upd_n hx]; exact h2 x hx, fun c hc => (mw_C hc).trans (h3 c hc)⟩
    rw [mw_s, upd_s, h3 32 (by decide), h3 22 (by decide), h3 33 (by decide)]
    have hx : (∃ t, t < n + 1 ∧ bt (I 32 0 a) t = true ∧ ¬ I 22 0 t ≤ I 33 0 a) ↔ (∃ t, t < n ∧ bt (I 32 0 a) t = true ∧ ¬ I 22 0 t ≤ I 33 0 a) ∨ (bt (I 32 0 a) n = true ∧ ¬ I 22 0 n ≤ I 33 0 a) := by
      constructor
      · rintro ⟨t, ht, hb⟩
        rcases Nat.lt_or_ge t n with h | h
        · exact Or.inl ⟨t, h, hb⟩
        · rw [show t = n by omega] at hb; exact Or.inr hb
      · rintro (⟨t, ht, hb⟩ | hb)
        · exact ⟨t, by omega, hb⟩
        · exact ⟨n, by omega, hb⟩
    rw [hx, ← h1]
    by_cases hz : I' 43 0 a = 0
    · rw [if_pos hz]
      by_cases hb : bt (I 32 0 a) n = true
      · rw [if_pos ((b_at1 _ (by omega)).mpr hb)]
        by_cases hl : I 22 0 n ≤ I 33 0 a
        · simp [hl, hz]
        · simp [hl, hb]
      · rw [if_neg (fun h => hb ((b_at1 _ (by omega)).mp h))]
        simp [hz, hb]
    · rw [if_neg hz]
      simp [hz])
  exact key
theorem mWk1_v {a : Nat} {s : k_IJ} : k_FM a s (mWk1 a s) ∧ (s.1 27 0 a = 0 → ¬ (mWk1 a s).1 39 0 a = 0 ∧ (mWk1 a s).2 40 0 a = s.2 29 0 a ∧ (∀ k, k < 3 → (mWk1 a s).1 41 0 (3 * a + k) = s.1 31 0 (3 * a + k)) ∧ (mWk1 a s).1 42 0 a = s.1 32 0 a ∧ (¬ (mWk1 a s).1 43 0 a = 0 ↔ v_D1 s.1 a)) ∧ (¬ s.1 27 0 a = 0 → (mWk1 a s).1 39 0 a = 0) := by
  have f0 : k_FM a s (mw 39 a 0 s.1, s.2) := ⟨fun c hc => mw_C (by omega), fun _ _ => rfl, fun x hx => by show mw 39 a 0 s.1 39 0 x = _; rw [mw_s, upd_n hx], fun _ _ => rfl, fun _ _ _ _ => by show mw 39 a 0 s.1 41 0 _ = _; rw [mw_C (by decide)], fun _ _ => by show mw 39 a 0 s.1 42 0 _ = _; rw [mw_C (by decide)], fun _ _ => by show mw 39 a 0 s.1 43 0 _ = _; rw [mw_C (by decide)]⟩
  have e27 : mw 39 a 0 s.1 27 0 a = s.1 27 0 a := by rw [mw_C (by decide)]
  unfold mWk1
  rw [e27]
  by_cases hp : s.1 27 0 a = 0
  · rw [if_pos hp]
    have lo : ∀ c, c ≠ 39 → c ≠ 42 → c ≠ 43 → (mw 43 a 0 (mWPt a (mw 39 a 1 (mw 39 a 0 s.1)))) c = s.1 c := fun c h1 h2 h3 => by
      unfold mWPt
      rw [mw_C h3, mw_C h2, mw_C h1, mw_C h1]
    obtain ⟨p1, p2, p3⟩ := mWPs_v (a := a) (I := mw 43 a 0 (mWPt a (mw 39 a 1 (mw 39 a 0 s.1))))
    have z43 : mWPs a (mw 43 a 0 (mWPt a (mw 39 a 1 (mw 39 a 0 s.1)))) 43 0 a = 0 := by rw [p3 43 (by decide), mw_s, upd_s]
    obtain ⟨d1, d2, d3⟩ := mWPd_v z43
    have eP : mWP a (mw 39 a 0 s.1) = mWPd a (mWPs a (mw 43 a 0 (mWPt a (mw 39 a 1 (mw 39 a 0 s.1))))) := rfl
    have e39 : mWP a (mw 39 a 0 s.1) 39 0 = upd (upd (s.1 39 0) a 0) a 1 := by
      rw [eP, d3 39 (by decide), p3 39 (by decide)]
      unfold mWPt
      rw [mw_C (by decide), mw_C (by decide), mw_s, mw_s]
    have e42 : mWP a (mw 39 a 0 s.1) 42 0 = upd (s.1 42 0) a (s.1 32 0 a) := by
      rw [eP, d3 42 (by decide), p3 42 (by decide)]
      unfold mWPt
      rw [mw_C (by decide), mw_s, mw_C (by decide), mw_C (by decide), mw_C (by decide), mw_C (by decide)]
    have e41 : mWP a (mw 39 a 0 s.1) 41 = mWPs a (mw 43 a 0 (mWPt a (mw 39 a 1 (mw 39 a 0 s.1)))) 41 := by rw [eP, d3 41 (by decide)]
    have hv : v_D1 (mWPs a (mw 43 a 0 (mWPt a (mw 39 a 1 (mw 39 a 0 s.1))))) a ↔ v_D1 s.1 a := by
      unfold v_D1
      rw [p3 32 (by decide), p3 22 (by decide), p3 33 (by decide), lo 32 (by decide) (by decide) (by decide), lo 22 (by decide) (by decide) (by decide), lo 33 (by decide) (by decide) (by decide)]
    refine ⟨⟨fun c hc => ?_, fun c hc => mwJ_C (by omega), fun x hx => ?_, fun x hx => ?_, fun x hx k hk => ?_, fun x hx => ?_, fun x hx => ?_⟩, fun _ => ⟨?_, ?_, fun k hk => ?_, ?_, ?_⟩, fun h => absurd hp h⟩
    · show mWP a (mw 39 a 0 s.1) c = _
      rw [mWP_C hc, mw_C (by omega)]
    · show mWP a (mw 39 a 0 s.1) 39 0 x = _
      rw [e39, upd_n hx, upd_n hx]
    · show mwJ 40 a _ s.2 40 0 x = _
      rw [mwJ_s, updL_n hx]
    · show mWP a (mw 39 a 0 s.1) 41 0 _ = _
      rw [e41, p2 x hx k hk, lo 41 (by decide) (by decide) (by decide)]
    · show mWP a (mw 39 a 0 s.1) 42 0 x = _
      rw [e42, upd_n hx]
    · show mWP a (mw 39 a 0 s.1) 43 0 x = _
      rw [eP, d2 x hx, p3 43 (by decide), mw_s, upd_n hx]
      unfold mWPt
      rw [mw_C (by decide), mw_C (by decide), mw_C (by decide)]
    · show ¬ mWP a (mw 39 a 0 s.1) 39 0 a = 0
      rw [e39, upd_s]; decide
    · show mwJ 40 a (s.2 29 0 a) s.2 40 0 a = _
      rw [mwJ_s, updL_s]
    · show mWP a (mw 39 a 0 s.1) 41 0 _ = _
      rw [e41, p1 k hk, lo 31 (by decide) (by decide) (by decide)]
    · show mWP a (mw 39 a 0 s.1) 42 0 a = _
      rw [e42, upd_s]
    · exact d1.trans hv
  · rw [if_neg hp]
    exact ⟨f0, fun h => absurd h hp, fun _ => by show mw 39 a 0 s.1 39 0 a = 0; rw [mw_s, upd_s]⟩
/-! joined ones -/
theorem mWJ1s_v {a e : Nat} (hne : e ≠ a) {I : k_I} : (∀ k, k < 3 → mWJ1s a e I 41 0 (3 * a + k) = I 41 0 (3 * a + k) &&& I 41 0 (3 * e + k)) ∧ (∀ x, x ≠ a → ∀ k, k < 3 → mWJ1s a e I 41 0 (3 * x + k) = I 41 0 (3 * x + k)) ∧ ∀ c, c ≠ 41 → mWJ1s a e I c = I c := by
  have key := kLoop_i0 (step := fun k I => mw 41 (3 * a + k) (I 41 0 (3 * a + k) &&& I 41 0 (3 * e + k)) I) (fun n I' => (∀ k, k < n → I' 41 0 (3 * a + k) = I 41 0 (3 * a + k) &&& I 41 0 (3 * e + k)) ∧ (∀ k, n ≤ k → k < 3 → I' 41 0 (3 * a + k) = I 41 0 (3 * a + k)) ∧ (∀ x, x ≠ a → ∀ k, k < 3 → I' 41 0 (3 * x + k) = I 41 0 (3 * x + k)) ∧ ∀ c, c ≠ 41 → I' c = I c) 3 I ⟨fun k hk => absurd hk (Nat.not_lt_zero _), fun _ _ _ => rfl, fun _ _ _ _ => rfl, fun _ _ => rfl⟩ (by
    rintro n I' hn ⟨h1, h1b, h2, h3⟩
    refine ⟨fun k hk => ?_, fun k hk hk3 => ?_, fun x hx k hk => ?_, fun c hc => (mw_C hc).trans (h3 c hc)⟩
    · rw [mw_s]
      by_cases hkn : k = n
      · subst hkn; rw [upd_s, h1b k (Nat.le_refl _) hn, h2 e hne k hn]
      · rw [upd_n (by omega)]; exact h1 k (by omega)
    · rw [mw_s, upd_n (by omega)]; exact h1b k (by omega) hk3
    · rw [mw_s, upd_n (by omega)]; exact h2 x hx k hk)
  exact ⟨key.1, key.2.2.1, key.2.2.2⟩
theorem mWJs_v {a : Nat} {I : k_I} : (∀ k, k < 3 → mWJs a I 41 0 (3 * a + k) = mAllOf (nI k)) ∧ (∀ x, x ≠ a → ∀ k, k < 3 → mWJs a I 41 0 (3 * x + k) = I 41 0 (3 * x + k)) ∧ ∀ c, c ≠ 41 → mWJs a I c = I c := by
  have key := kLoop_i0 (step := fun k I => mw 41 (3 * a + k) (mAllOf (nI k)) I) (fun n I' => (∀ k, k < n → I' 41 0 (3 * a + k) = mAllOf (nI k)) ∧ (∀ x, x ≠ a → ∀ k, k < 3 → I' 41 0 (3 * x + k) = I 41 0 (3 * x + k)) ∧ ∀ c, c ≠ 41 → I' c = I c) 3 I ⟨fun k hk => absurd hk (Nat.not_lt_zero _), fun _ _ _ _ => rfl, fun _ _ => rfl⟩ (by
    rintro n I' hn ⟨h1, h2, h3⟩
    refine ⟨fun k hk => ?_, fun x hx k hk => ?_, fun c hc => (mw_C hc).trans (h3 c hc)⟩
    · rw [mw_s]
      by_cases hkn : k = n
      · subst hkn; rw [upd_s]
      · rw [upd_n (by omega)]; exact h1 k (by omega)
    · rw [mw_s, upd_n (by omega)]; exact h2 x hx k hk)
  exact key
/-- gathered out of the first n parts -/
abbrev k_GM (E : Nat → Nat) (P : Nat → Int32) (n a : Nat) (s r : k_IJ) : Prop := (r.1 39 0 a = 1) ∧ (∀ b, bl (r.2 40 0 a) b = true ↔ ∃ k, k < n ∧ ¬ P (4 * a + k) < 0 ∧ bl (s.2 40 0 (mE E (P (4 * a + k)))) b = true) ∧ (∀ m, m < 3 → ∀ b, bt (r.1 41 0 (3 * a + m)) b = true ↔ bt (mAllOf (nI m)) b = true ∧ ∀ k, k < n → ¬ P (4 * a + k) < 0 → bt (s.1 41 0 (3 * mE E (P (4 * a + k)) + m)) b = true) ∧ (∀ b, bt (r.1 42 0 a) b = true ↔ ∃ k, k < n ∧ ¬ P (4 * a + k) < 0 ∧ bt (s.1 42 0 (mE E (P (4 * a + k)))) b = true) ∧ (¬ r.1 43 0 a = 0 ↔ ∃ k, k < n ∧ ¬ P (4 * a + k) < 0 ∧ ¬ s.1 43 0 (mE E (P (4 * a + k))) = 0)
theorem k_GM.k39 {E : Nat → Nat} {P : Nat → Int32} {n a : Nat} {s r : k_IJ} (h_ : k_GM E P n a s r) : r.1 39 0 a = 1 := h_.1
theorem k_GM.fw {E : Nat → Nat} {P : Nat → Int32} {n a : Nat} {s r : k_IJ} (h_ : k_GM E P n a s r) : ∀ b, bl (r.2 40 0 a) b = true ↔ ∃ k, k < n ∧ ¬ P (4 * a + k) < 0 ∧ bl (s.2 40 0 (mE E (P (4 * a + k)))) b = true := h_.2.1
theorem k_GM.fs {E : Nat → Nat} {P : Nat → Int32} {n a : Nat} {s r : k_IJ} (h_ : k_GM E P n a s r) : ∀ m, m < 3 → ∀ b, bt (r.1 41 0 (3 * a + m)) b = true ↔ bt (mAllOf (nI m)) b = true ∧ ∀ k, k < n → ¬ P (4 * a + k) < 0 → bt (s.1 41 0 (3 * mE E (P (4 * a + k)) + m)) b = true := h_.2.2.1
theorem k_GM.ft {E : Nat → Nat} {P : Nat → Int32} {n a : Nat} {s r : k_IJ} (h_ : k_GM E P n a s r) : ∀ b, bt (r.1 42 0 a) b = true ↔ ∃ k, k < n ∧ ¬ P (4 * a + k) < 0 ∧ bt (s.1 42 0 (mE E (P (4 * a + k)))) b = true := h_.2.2.2.1
theorem k_GM.fd {E : Nat → Nat} {P : Nat → Int32} {n a : Nat} {s r : k_IJ} (h_ : k_GM E P n a s r) : ¬ r.1 43 0 a = 0 ↔ ∃ k, k < n ∧ ¬ P (4 * a + k) < 0 ∧ ¬ s.1 43 0 (mE E (P (4 * a + k))) = 0 := h_.2.2.2.2
theorem g_ex1 {n : Nat} {R : Nat → Prop} : (∃ k, k < n + 1 ∧ R k) ↔ (∃ k, k < n ∧ R k) ∨ R n := by
  constructor
  · rintro ⟨t, ht, hb⟩
    rcases Nat.lt_or_ge t n with h | h
    · exact Or.inl ⟨t, h, hb⟩
    · rw [show t = n by omega] at hb; exact Or.inr hb
  · rintro (⟨t, ht, hb⟩ | hb)
    · exact ⟨t, by omega, hb⟩
    · exact ⟨n, by omega, hb⟩
theorem g_all1 {n : Nat} {R : Nat → Prop} : (∀ k, k < n + 1 → R k) ↔ (∀ k, k < n → R k) ∧ R n := by
  constructor
  · intro h
    exact ⟨fun k hk => h k (by omega), h n (by omega)⟩
  · rintro ⟨h1, h2⟩ k hk
    rcases Nat.lt_or_ge k n with h | h
    · exact h1 k h
    · rw [show k = n by omega]; exact h2
theorem mWJ1_v {E : Nat → Nat} {P : Nat → Int32} {n a : Nat} {s r : k_IJ} (hf : k_FM a s r) (g : k_GM E P n a s r) (hn : ¬ P (4 * a + n) < 0) (hne : mE E (P (4 * a + n)) ≠ a) : k_FM a s (mWJ1 a (mE E (P (4 * a + n))) r.1, mWJ1J a (mE E (P (4 * a + n))) r.2) ∧ k_GM E P (n + 1) a s (mWJ1 a (mE E (P (4 * a + n))) r.1, mWJ1J a (mE E (P (4 * a + n))) r.2) := by
  generalize he : mE E (P (4 * a + n)) = e at hne ⊢
  obtain ⟨p1, p2, p3⟩ := mWJ1s_v hne (I := mWJ1d a e (mWJ1t a e r.1))
  have e1 : mWJ1 a e r.1 = mWJ1s a e (mWJ1d a e (mWJ1t a e r.1)) := rfl
  have lo : ∀ c, c ≠ 42 → c ≠ 43 → mWJ1d a e (mWJ1t a e r.1) c = r.1 c := fun c h2 h3 => by
    unfold mWJ1d mWJ1t
    rw [mw_C h3, mw_C h2]
  have e42 : mWJ1 a e r.1 42 0 = upd (r.1 42 0) a (r.1 42 0 a ||| r.1 42 0 e) := by
    rw [e1, p3 42 (by decide)]
    unfold mWJ1d mWJ1t
    rw [mw_C (by decide), mw_s]
  have e43 : mWJ1 a e r.1 43 0 = upd (r.1 43 0) a (if r.1 43 0 a = 0 then (if r.1 43 0 e = 0 then 0 else 1) else 1) := by
    rw [e1, p3 43 (by decide)]
    unfold mWJ1d mWJ1t
    rw [mw_s, mw_C (by decide)]
  have e40 : mWJ1J a e r.2 40 0 = vp_updL (r.2 40 0) a (r.2 40 0 a ||| r.2 40 0 e) := mwJ_s
  refine ⟨hf.tr ⟨fun c hc => ?_, fun c hc => mwJ_C (by omega), fun x hx => ?_, fun x hx => ?_, fun x hx k hk => ?_, fun x hx => ?_, fun x hx => ?_⟩, ⟨?_, fun b => ?_, fun m hm b => ?_, fun b => ?_, ?_⟩⟩
  · exact mWJ1_C hc
  · show mWJ1 a e r.1 39 0 x = _
    rw [e1, p3 39 (by decide), lo 39 (by decide) (by decide)]
  · show mWJ1J a e r.2 40 0 x = _
    rw [e40, updL_n hx]
  · show mWJ1 a e r.1 41 0 _ = _
    rw [e1, p2 x hx k hk, lo 41 (by decide) (by decide)]
  · show mWJ1 a e r.1 42 0 x = _
    rw [e42, upd_n hx]
  · show mWJ1 a e r.1 43 0 x = _
    rw [e43, upd_n hx]
  · show mWJ1 a e r.1 39 0 a = 1
    rw [e1, p3 39 (by decide), lo 39 (by decide) (by decide)]; exact g.k39
  · show bl (mWJ1J a e r.2 40 0 a) b = true ↔ _
    rw [e40, updL_s, l_or, Bool.or_eq_true, g.fw b, g_ex1, he, hf.k40 e hne]
    simp only [hn, not_false_eq_true, true_and]
  · show bt (mWJ1 a e r.1 41 0 (3 * a + m)) b = true ↔ _
    rw [e1, p1 m hm, lo 41 (by decide) (by decide), b_and, Bool.and_eq_true, g.fs m hm b, g_all1, he, hf.k41 e hne m hm]
    simp only [hn, not_false_eq_true, true_implies, and_assoc]
  · show bt (mWJ1 a e r.1 42 0 a) b = true ↔ _
    rw [e42, upd_s, b_or, Bool.or_eq_true, g.ft b, g_ex1, he, hf.k42 e hne]
    simp only [hn, not_false_eq_true, true_and]
  · show ¬ mWJ1 a e r.1 43 0 a = 0 ↔ _
    rw [e43, upd_s, g_ex1, ← g.fd, he, ← hf.k43 e hne]
    simp only [hn, not_false_eq_true, true_and]
    by_cases h1 : r.1 43 0 a = 0
    · rw [if_pos h1]
      by_cases h2 : r.1 43 0 e = 0
      · simp [h1, h2]
      · simp [h1, h2]
    · rw [if_neg h1]; simp [h1]
theorem k_GM.ext {E : Nat → Nat} {P : Nat → Int32} {n a : Nat} {s r : k_IJ} (g : k_GM E P n a s r) (hn : n ≤ 4) (h : ∀ k, n ≤ k → k < 4 → P (4 * a + k) < 0) : k_GM E P 4 a s r := by
  have hx : ∀ R : Nat → Prop, (∃ k, k < n ∧ ¬ P (4 * a + k) < 0 ∧ R k) ↔ ∃ k, k < 4 ∧ ¬ P (4 * a + k) < 0 ∧ R k := fun R => by
    constructor
    · rintro ⟨k, hk, h1, h2⟩; exact ⟨k, by omega, h1, h2⟩
    · rintro ⟨k, hk, h1, h2⟩
      rcases Nat.lt_or_ge k n with h3 | h3
      · exact ⟨k, h3, h1, h2⟩
      · exact absurd (h k h3 hk) h1
  refine ⟨g.k39, fun b => (g.fw b).trans (hx _), fun m hm b => (g.fs m hm b).trans (and_congr_right fun _ => ⟨fun h2 k hk h1 => ?_, fun h2 k hk h1 => h2 k (by omega) h1⟩), fun b => (g.ft b).trans (hx _), g.fd.trans (hx _)⟩
  rcases Nat.lt_or_ge k n with h3 | h3
  · exact h2 k h3 h1
  · exact absurd (h k h3 hk) h1
theorem mWJL_v {E : Nat → Nat} {P : Nat → Int32} {a : Nat} {s : k_IJ} (hP : s.1 35 0 = P) (hpre : ∀ k, k < 3 → P (4 * a + k) < 0 → P (4 * a + (k + 1)) < 0) (hne : ∀ k, k < 4 → ¬ P (4 * a + k) < 0 → mE E (P (4 * a + k)) ≠ a) : ∀ (d n : Nat) (r : k_IJ), n + d = 4 → k_FM a s r → k_GM E P n a s r → k_FM a s (mWJL E a d n r) ∧ k_GM E P 4 a s (mWJL E a d n r)
  | 0, n, r, hd, hf, g => by
    have : n = 4 := by omega
    subst this
    exact ⟨hf, g⟩
  | d + 1, n, r, hd, hf, g => by
    unfold mWJL
    rw [hf.lo 35 (by decide), hP]
    by_cases hn : P (4 * a + n) < 0
    · rw [if_pos hn]
      refine ⟨hf, g.ext (by omega) ?_⟩
      intro k hk1 hk2
      induction k with
      | zero => rw [show n = 0 by omega] at hn; exact hn
      | succ k ih =>
        rcases Nat.lt_or_ge k n with h | h
        · rw [show k + 1 = n by omega]; exact hn
        · exact hpre k (by omega) (ih h (by omega))
    · rw [if_neg hn]
      obtain ⟨f2, g2⟩ := mWJ1_v hf g hn (hne n (by omega) hn)
      exact mWJL_v hP hpre hne d (n + 1) _ (by omega) f2 g2
theorem mCan_iff {E : Nat → Nat} {I : k_I} {a : Nat} : mCan E I a = true ↔ ∀ k, k < 4 → I 35 0 (4 * a + k) < 0 ∨ ¬ I 39 0 (mE E (I 35 0 (4 * a + k))) = 0 := by
  have key := kLoop_i0 (step := mCan1 E I a) (fun n b => b = true ↔ ∀ k, k < n → I 35 0 (4 * a + k) < 0 ∨ ¬ I 39 0 (mE E (I 35 0 (4 * a + k))) = 0) 4 true ⟨fun _ k hk => absurd hk (Nat.not_lt_zero _), fun _ => rfl⟩ (by
    intro n b hn h
    unfold mCan1
    rw [Bool.and_eq_true, h, g_all1]
    simp only [Bool.or_eq_true, decide_eq_true_eq, Bool.not_eq_true', decide_eq_false_iff_not])
  exact key
