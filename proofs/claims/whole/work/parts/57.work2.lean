/-! the reference's work as a whole -/
theorem mWJ0_v {E : Nat → Nat} {P : Nat → Int32} {a : Nat} {s : k_IJ} : k_FM a s (mWJ0 a s.1, mwJ 40 a 0 s.2) ∧ k_GM E P 0 a s (mWJ0 a s.1, mwJ 40 a 0 s.2) := by
  obtain ⟨p1, p2, p3⟩ := mWJs_v (a := a) (I := mw 43 a 0 (mw 42 a 0 (mw 39 a 1 s.1)))
  have e : mWJ0 a s.1 = mWJs a (mw 43 a 0 (mw 42 a 0 (mw 39 a 1 s.1))) := rfl
  have e39 : mWJ0 a s.1 39 0 = upd (s.1 39 0) a 1 := by
    rw [e, p3 39 (by decide), mw_C (by decide), mw_C (by decide), mw_s]
  have e42 : mWJ0 a s.1 42 0 = upd (s.1 42 0) a 0 := by
    rw [e, p3 42 (by decide), mw_C (by decide), mw_s, mw_C (by decide)]
  have e43 : mWJ0 a s.1 43 0 = upd (s.1 43 0) a 0 := by
    rw [e, p3 43 (by decide), mw_s, mw_C (by decide), mw_C (by decide)]
  refine ⟨⟨fun c hc => mWJ0_C hc, fun c hc => mwJ_C (by omega), fun x hx => ?_, fun x hx => ?_, fun x hx k hk => ?_, fun x hx => ?_, fun x hx => ?_⟩, ⟨?_, fun b => ?_, fun m hm b => ?_, fun b => ?_, ?_⟩⟩
  · show mWJ0 a s.1 39 0 x = _
    rw [e39, upd_n hx]
  · show mwJ 40 a 0 s.2 40 0 x = _
    rw [mwJ_s, updL_n hx]
  · show mWJ0 a s.1 41 0 _ = _
    rw [e, p2 x hx k hk, mw_C (by decide), mw_C (by decide), mw_C (by decide)]
  · show mWJ0 a s.1 42 0 x = _
    rw [e42, upd_n hx]
  · show mWJ0 a s.1 43 0 x = _
    rw [e43, upd_n hx]
  · show mWJ0 a s.1 39 0 a = 1
    rw [e39, upd_s]
  · show bl (mwJ 40 a 0 s.2 40 0 a) b = true ↔ _
    rw [mwJ_s, updL_s, l_0]
    exact ⟨fun h => (by cases h), fun ⟨k, hk, _⟩ => absurd hk (Nat.not_lt_zero _)⟩
  · show bt (mWJ0 a s.1 41 0 (3 * a + m)) b = true ↔ _
    rw [e, p1 m hm]
    exact ⟨fun h => ⟨h, fun k hk => absurd hk (Nat.not_lt_zero _)⟩, fun h => h.1⟩
  · show bt (mWJ0 a s.1 42 0 a) b = true ↔ _
    rw [e42, upd_s, b_0]
    exact ⟨fun h => (by cases h), fun ⟨k, hk, _⟩ => absurd hk (Nat.not_lt_zero _)⟩
  · show ¬ mWJ0 a s.1 43 0 a = 0 ↔ _
    rw [e43, upd_s]
    exact ⟨fun h => absurd rfl h, fun ⟨k, hk, _⟩ => absurd hk (Nat.not_lt_zero _)⟩
/-- the closed forms of joined ones -/
theorem g_ex {E : Nat → Nat} {P : Nat → Int32} {x : Nat} {R : Nat → Prop} : (∃ e, g_E E P x e ∧ R e) ↔ ∃ k, k < 4 ∧ ¬ P (4 * x + k) < 0 ∧ R (mE E (P (4 * x + k))) := by
  constructor
  · rintro ⟨e, ⟨k, hk, hn, rfl⟩, h⟩
    exact ⟨k, hk, hn, h⟩
  · rintro ⟨k, hk, hn, h⟩
    exact ⟨_, ⟨k, hk, hn, rfl⟩, h⟩
theorem g_TJ {E : Nat → Nat} {P K : Nat → Int32} {x : Nat} {R : Nat → Prop} (hx : ¬ K x = 0) : (∃ p, g_T E P K x p ∧ R p) ↔ ∃ e, g_E E P x e ∧ ∃ p, g_T E P K e p ∧ R p := by
  constructor
  · rintro ⟨p, ht, h⟩
    rcases g_T_iff.mp ht with ⟨hk, rfl⟩ | ⟨e, he, ht⟩
    · exact absurd hk hx
    · exact ⟨e, he, p, ht, h⟩
  · rintro ⟨e, he, p, ht, h⟩
    exact ⟨p, g_T_iff.mpr (Or.inr ⟨e, he, ht⟩), h⟩
theorem v_W_j {E : Nat → Nat} {I : k_I} {J : k_J} {x b : Nat} (hx : ¬ I 27 0 x = 0) : v_W E I J x b ↔ ∃ e, g_E E (I 35 0) x e ∧ v_W E I J e b := g_TJ hx
theorem v_B_j {E : Nat → Nat} {I : k_I} {x b : Nat} (hx : ¬ I 27 0 x = 0) : v_B E I x b ↔ ∃ e, g_E E (I 35 0) x e ∧ v_B E I e b := g_TJ hx
theorem v_D_j {E : Nat → Nat} {I : k_I} {x : Nat} (hx : ¬ I 27 0 x = 0) : v_D E I x ↔ ∃ e, g_E E (I 35 0) x e ∧ v_D E I e := g_TJ hx
theorem v_S_j {E : Nat → Nat} {I : k_I} {x k b : Nat} (hx : ¬ I 27 0 x = 0) : v_S E I x k b ↔ bt (mAllOf (nI k)) b = true ∧ ∀ m, m < 4 → ¬ I 35 0 (4 * x + m) < 0 → v_S E I (mE E (I 35 0 (4 * x + m))) k b := by
  constructor
  · rintro ⟨h1, h2⟩
    refine ⟨h1.resolve_left hx, fun m hm hn => ⟨Or.inr (h1.resolve_left hx), fun p ht => h2 p (g_T_iff.mpr (Or.inr ⟨_, ⟨m, hm, hn, rfl⟩, ht⟩))⟩⟩
  · rintro ⟨h1, h2⟩
    refine ⟨Or.inr h1, fun p ht => ?_⟩
    rcases g_T_iff.mp ht with ⟨hk, rfl⟩ | ⟨e, ⟨m, hm, hn, rfl⟩, ht⟩
    · exact absurd hk hx
    · exact (h2 m hm hn).2 p ht
/-- what of the reference's the work looks at -/
abbrev k_MR (nA : Nat) (E : Nat → Nat) (I : k_I) : Prop := (∀ i, i < nA → I 27 0 i = 0 ∨ I 27 0 i = 1) ∧ (∀ i, i < nA → ∀ k, k < 3 → I 35 0 (4 * i + k) < 0 → I 35 0 (4 * i + (k + 1)) < 0) ∧ (∀ i, i < nA → I 27 0 i = 0 → ∀ k, k < 4 → I 35 0 (4 * i + k) < 0) ∧ (∃ r, g_R nA E (I 35 0) r)
theorem k_MR.kd {nA : Nat} {E : Nat → Nat} {I : k_I} (h_ : k_MR nA E I) : ∀ i, i < nA → I 27 0 i = 0 ∨ I 27 0 i = 1 := h_.1
theorem k_MR.pre {nA : Nat} {E : Nat → Nat} {I : k_I} (h_ : k_MR nA E I) : ∀ i, i < nA → ∀ k, k < 3 → I 35 0 (4 * i + k) < 0 → I 35 0 (4 * i + (k + 1)) < 0 := h_.2.1
theorem k_MR.nop {nA : Nat} {E : Nat → Nat} {I : k_I} (h_ : k_MR nA E I) : ∀ i, i < nA → I 27 0 i = 0 → ∀ k, k < 4 → I 35 0 (4 * i + k) < 0 := h_.2.2.1
theorem k_MR.rank {nA : Nat} {E : Nat → Nat} {I : k_I} (h_ : k_MR nA E I) : ∃ r, g_R nA E (I 35 0) r := h_.2.2.2
theorem k_Raw.mr {nA nK : Nat} {E : Nat → Nat} {I : k_I} {J : k_J} (h : k_Raw nA nK E I J) : k_MR nA E I := ⟨fun i hi => (h.kind i hi).2, h.pre, h.noparts, h.rank⟩
theorem k_MR.of {nA : Nat} {E : Nat → Nat} {I I' : k_I} (h : k_MR nA E I) (h27 : I' 27 = I 27) (h35 : I' 35 = I 35) : k_MR nA E I' := by
  obtain ⟨a, b, c, d⟩ := h
  exact ⟨by rw [h27]; exact a, by rw [h35]; exact b, by rw [h27, h35]; exact c, by rw [h35]; exact d⟩
theorem g_T_pl {nA : Nat} {E : Nat → Nat} {I : k_I} (h : k_MR nA E I) {x p : Nat} (hx : x < nA) (hp : I 27 0 x = 0) : g_T E (I 35 0) (I 27 0) x p ↔ p = x := by
  rw [g_T_iff]
  constructor
  · rintro (⟨_, h⟩ | ⟨e, ⟨k, hk, hn, _⟩, _⟩)
    · exact h
    · exact absurd (h.nop x hx hp k hk) hn
  · rintro rfl
    exact Or.inl ⟨hp, rfl⟩
theorem g_TP {nA : Nat} {E : Nat → Nat} {I : k_I} (h : k_MR nA E I) {x : Nat} {R : Nat → Prop} (hx : x < nA) (hp : I 27 0 x = 0) : (∃ p, g_T E (I 35 0) (I 27 0) x p ∧ R p) ↔ R x := by
  constructor
  · rintro ⟨p, ht, hr⟩
    rw [(g_T_pl h hx hp).mp ht] at hr; exact hr
  · intro hr
    exact ⟨x, (g_T_pl h hx hp).mpr rfl, hr⟩
theorem v_S_p {nA : Nat} {E : Nat → Nat} {I : k_I} (h : k_MR nA E I) {x k b : Nat} (hx : x < nA) (hp : I 27 0 x = 0) : v_S E I x k b ↔ bt (I 31 0 (3 * x + k)) b = true := by
  constructor
  · rintro ⟨-, h2⟩
    exact h2 x ((g_T_pl h hx hp).mpr rfl)
  · intro hb
    refine ⟨Or.inl hp, fun p ht => ?_⟩
    rw [(g_T_pl h hx hp).mp ht]; exact hb
/-- x is worked out -/
abbrev k_Gd (E : Nat → Nat) (I : k_I) (J : k_J) (s : k_IJ) (x : Nat) : Prop := (∀ b, bl (s.2 40 0 x) b = true ↔ v_W E I J x b) ∧ (∀ k, k < 3 → ∀ b, bt (s.1 41 0 (3 * x + k)) b = true ↔ v_S E I x k b) ∧ (∀ b, bt (s.1 42 0 x) b = true ↔ v_B E I x b) ∧ (¬ s.1 43 0 x = 0 ↔ v_D E I x)
theorem k_Gd.fw {E : Nat → Nat} {I : k_I} {J : k_J} {s : k_IJ} {x : Nat} (h_ : k_Gd E I J s x) : ∀ b, bl (s.2 40 0 x) b = true ↔ v_W E I J x b := h_.1
theorem k_Gd.fs {E : Nat → Nat} {I : k_I} {J : k_J} {s : k_IJ} {x : Nat} (h_ : k_Gd E I J s x) : ∀ k, k < 3 → ∀ b, bt (s.1 41 0 (3 * x + k)) b = true ↔ v_S E I x k b := h_.2.1
theorem k_Gd.ft {E : Nat → Nat} {I : k_I} {J : k_J} {s : k_IJ} {x : Nat} (h_ : k_Gd E I J s x) : ∀ b, bt (s.1 42 0 x) b = true ↔ v_B E I x b := h_.2.2.1
theorem k_Gd.fd {E : Nat → Nat} {I : k_I} {J : k_J} {s : k_IJ} {x : Nat} (h_ : k_Gd E I J s x) : ¬ s.1 43 0 x = 0 ↔ v_D E I x := h_.2.2.2
theorem k_Gd.fm {E : Nat → Nat} {I : k_I} {J : k_J} {s r : k_IJ} {a x : Nat} (g : k_Gd E I J s x) (hf : k_FM a s r) (hx : x ≠ a) : k_Gd E I J r x :=
  ⟨fun b => by rw [hf.k40 x hx]; exact g.fw b, fun k hk b => by rw [hf.k41 x hx k hk]; exact g.fs k hk b, fun b => by rw [hf.k42 x hx]; exact g.ft b, by rw [hf.k43 x hx]; exact g.fd⟩
abbrev k_Wi (nA : Nat) (E : Nat → Nat) (I : k_I) (J : k_J) (s : k_IJ) : Prop := (∀ c, c < 39 → s.1 c = I c) ∧ (∀ c, c < 39 → s.2 c = J c) ∧ (∀ x, x < nA → ¬ s.1 39 0 x = 0 → k_Gd E I J s x) ∧ (∀ x, x < nA → I 27 0 x = 0 → ¬ s.1 39 0 x = 0)
theorem k_Wi.lo {nA : Nat} {E : Nat → Nat} {I : k_I} {J : k_J} {s : k_IJ} (h_ : k_Wi nA E I J s) : ∀ c, c < 39 → s.1 c = I c := h_.1
theorem k_Wi.loJ {nA : Nat} {E : Nat → Nat} {I : k_I} {J : k_J} {s : k_IJ} (h_ : k_Wi nA E I J s) : ∀ c, c < 39 → s.2 c = J c := h_.2.1
theorem k_Wi.sd {nA : Nat} {E : Nat → Nat} {I : k_I} {J : k_J} {s : k_IJ} (h_ : k_Wi nA E I J s) : ∀ x, x < nA → ¬ s.1 39 0 x = 0 → k_Gd E I J s x := h_.2.2.1
theorem k_Wi.pl {nA : Nat} {E : Nat → Nat} {I : k_I} {J : k_J} {s : k_IJ} (h_ : k_Wi nA E I J s) : ∀ x, x < nA → I 27 0 x = 0 → ¬ s.1 39 0 x = 0 := h_.2.2.2
theorem mWkA_v {nA : Nat} {E : Nat → Nat} {I : k_I} {J : k_J} (h : k_MR nA E I) : k_Wi nA E I J (mWkA nA (I, J)) := by
  have key := kLoop_i0 (step := mWk1) (fun n s => (∀ c, c < 39 → s.1 c = I c) ∧ (∀ c, c < 39 → s.2 c = J c) ∧ ∀ x, x < n → (I 27 0 x = 0 → ¬ s.1 39 0 x = 0 ∧ k_Gd E I J s x) ∧ (¬ I 27 0 x = 0 → s.1 39 0 x = 0)) nA (I, J) ⟨fun _ _ => rfl, fun _ _ => rfl, fun x hx => absurd hx (Nat.not_lt_zero _)⟩ (by
    rintro n s hn ⟨h1, h2, h3⟩
    obtain ⟨f, p, q⟩ := mWk1_v (a := n) (s := s)
    rw [h1 27 (by decide)] at p q
    refine ⟨fun c hc => (f.lo c hc).trans (h1 c hc), fun c hc => (f.loJ c hc).trans (h2 c hc), fun x hx => ?_⟩
    by_cases hxn : x = n
    · subst hxn
      refine ⟨fun hp => ?_, q⟩
      obtain ⟨p1, p2, p3, p4, p5⟩ := p hp
      refine ⟨p1, ⟨fun b => ?_, fun k hk b => ?_, fun b => ?_, p5.trans ?_⟩⟩
      · rw [p2, h2 29 (by decide)]; exact (g_TP (R := fun p => bl (J 29 0 p) b = true) h hn hp).symm
      · rw [p3 k hk, h1 31 (by decide)]; exact (v_S_p h hn hp).symm
      · rw [p4, h1 32 (by decide)]; exact (g_TP (R := fun p => bt (I 32 0 p) b = true) h hn hp).symm
      · have : v_D1 s.1 x ↔ v_D1 I x := by unfold v_D1; rw [h1 32 (by decide), h1 22 (by decide), h1 33 (by decide)]
        rw [this]; exact (g_TP (R := fun p => v_D1 I p) h hn hp).symm
    · obtain ⟨a, b⟩ := h3 x (by omega)
      rw [f.k39 x hxn]
      exact ⟨fun hp => ⟨(a hp).1, (a hp).2.fm f hxn⟩, b⟩)
  obtain ⟨k1, k2, k3⟩ := key
  refine ⟨k1, k2, fun x hx h39 => ?_, fun x hx hp => ((k3 x hx).1 hp).1⟩
  by_cases hp : I 27 0 x = 0
  · exact ((k3 x hx).1 hp).2
  · exact absurd ((k3 x hx).2 hp) h39
theorem mWk2_v {nA nK : Nat} {E : Nat → Nat} {I : k_I} {J : k_J} (ms : m_S nA nK E I) (h : k_MR nA E I) {s : k_IJ} (g : k_Wi nA E I J s) {a : Nat} (ha : a < nA) : k_Wi nA E I J (mWk2 E a s) ∧ (∀ x, ¬ s.1 39 0 x = 0 → ¬ (mWk2 E a s).1 39 0 x = 0) ∧ ((∀ e, g_E E (I 35 0) a e → ¬ s.1 39 0 e = 0) → ¬ (mWk2 E a s).1 39 0 a = 0) := by
  unfold mWk2
  by_cases h0 : s.1 39 0 a = 0
  · rw [if_pos h0]
    unfold mWJ
    have hj : ¬ I 27 0 a = 0 := fun hp => g.pl a ha hp h0
    by_cases hc : mCan E s.1 a = true
    · rw [if_pos hc]
      have hcan := mCan_iff.mp hc
      rw [g.lo 35 (by decide)] at hcan
      obtain ⟨f0, g0⟩ := mWJ0_v (E := E) (P := I 35 0) (a := a) (s := s)
      have hkn : ∀ k, k < 4 → ¬ I 35 0 (4 * a + k) < 0 → ¬ s.1 39 0 (mE E (I 35 0 (4 * a + k))) = 0 := fun k hk hn => (hcan k hk).resolve_left hn
      obtain ⟨f, q⟩ := mWJL_v (E := E) (P := I 35 0) (a := a) (s := s) (by rw [g.lo 35 (by decide)]) (fun k hk => h.pre a ha k hk) (fun k hk hn e => hkn k hk hn (by rw [e]; exact h0)) 4 0 _ rfl f0 g0
      generalize mWJL E a 4 0 (mWJ0 a s.1, mwJ 40 a 0 s.2) = r at f q ⊢
      have gd : ∀ k, k < 4 → ¬ I 35 0 (4 * a + k) < 0 → k_Gd E I J s (mE E (I 35 0 (4 * a + k))) := fun k hk hn => g.sd _ (g_E_lt ms ha ⟨k, hk, hn, rfl⟩) (hkn k hk hn)
      have hga : k_Gd E I J r a := by
        refine ⟨fun b => ?_, fun m hm b => ?_, fun b => ?_, ?_⟩
        · rw [q.fw b, v_W_j hj, g_ex]
          exact exists_congr fun k => and_congr_right fun hk => and_congr_right fun hn => (gd k hk hn).fw b
        · rw [q.fs m hm b, v_S_j hj]
          exact and_congr_right fun _ => forall_congr' fun k => forall_congr' fun hk => forall_congr' fun hn => (gd k hk hn).fs m hm b
        · rw [q.ft b, v_B_j hj, g_ex]
          exact exists_congr fun k => and_congr_right fun hk => and_congr_right fun hn => (gd k hk hn).ft b
        · rw [q.fd, v_D_j hj, g_ex]
          exact exists_congr fun k => and_congr_right fun hk => and_congr_right fun hn => (gd k hk hn).fd
      have mono : ∀ x, ¬ s.1 39 0 x = 0 → ¬ r.1 39 0 x = 0 := fun x hx => by
        by_cases hxa : x = a
        · subst hxa; exact absurd h0 hx
        · rw [f.k39 x hxa]; exact hx
      refine ⟨⟨fun c hc => (f.lo c hc).trans (g.lo c hc), fun c hc => (f.loJ c hc).trans (g.loJ c hc), fun x hx h39 => ?_, fun x hx hp => mono x (g.pl x hx hp)⟩, mono, fun _ => by rw [q.k39]; decide⟩
      by_cases hxa : x = a
      · subst hxa; exact hga
      · rw [f.k39 x hxa] at h39
        exact (g.sd x hx h39).fm f hxa
    · rw [if_neg hc]
      refine ⟨g, fun x hx => hx, fun hk => ?_⟩
      refine absurd (mCan_iff.mpr fun k hk4 => ?_) hc
      rw [g.lo 35 (by decide)]
      by_cases hn : I 35 0 (4 * a + k) < 0
      · exact Or.inl hn
      · exact Or.inr (hk _ ⟨k, hk4, hn, rfl⟩)
  · rw [if_neg h0]
    exact ⟨g, fun x hx => hx, fun _ => h0⟩
theorem mWkR_v {nA nK : Nat} {E : Nat → Nat} {I : k_I} {J : k_J} (ms : m_S nA nK E I) (h : k_MR nA E I) {s : k_IJ} (g : k_Wi nA E I J s) : k_Wi nA E I J (mWkR E nA s) ∧ (∀ x, ¬ s.1 39 0 x = 0 → ¬ (mWkR E nA s).1 39 0 x = 0) ∧ ∀ a, a < nA → (∀ e, g_E E (I 35 0) a e → ¬ s.1 39 0 e = 0) → ¬ (mWkR E nA s).1 39 0 a = 0 := by
  refine kLoop_i0 (step := mWk2 E) (fun n r => k_Wi nA E I J r ∧ (∀ x, ¬ s.1 39 0 x = 0 → ¬ r.1 39 0 x = 0) ∧ ∀ a, a < n → (∀ e, g_E E (I 35 0) a e → ¬ s.1 39 0 e = 0) → ¬ r.1 39 0 a = 0) nA s ⟨g, fun _ h => h, fun a ha => absurd ha (Nat.not_lt_zero _)⟩ ?_
  rintro n r hn ⟨h1, h2, h3⟩
  obtain ⟨q1, q2, q3⟩ := mWk2_v ms h h1 hn
  refine ⟨q1, fun x hx => q2 x (h2 x hx), fun a ha he => ?_⟩
  by_cases han : a = n
  · subst han
    exact q3 (fun e hee => h2 e (he e hee))
  · exact q2 a (h3 a (by omega) he)
theorem mWork_v {nA nK : Nat} {E : Nat → Nat} {I : k_I} {J : k_J} (ms : m_S nA nK E I) (h : k_MR nA E I) : (∀ c, c < 39 → (mWork E nA (I, J)).1 c = I c) ∧ (∀ c, c < 39 → (mWork E nA (I, J)).2 c = J c) ∧ ∀ x, x < nA → k_Gd E I J (mWork E nA (I, J)) x := by
  obtain ⟨r0, hr0⟩ := h.rank
  obtain ⟨r, hr, hb⟩ := g_R_small hr0 (fun x e hx he => g_E_lt ms hx he)
  have key := kLoop_i0 (step := fun _ s => mWkR E nA s) (fun n s => k_Wi nA E I J s ∧ ∀ x, x < nA → r x < n → ¬ s.1 39 0 x = 0) nA (mWkA nA (I, J)) ⟨mWkA_v h, fun x hx hn => absurd hn (Nat.not_lt_zero _)⟩ (by
    rintro n s hn ⟨h1, h2⟩
    obtain ⟨q1, q2, q3⟩ := mWkR_v ms h h1
    refine ⟨q1, fun x hx hrx => q3 x hx fun e he => h2 e (g_E_lt ms hx he) ?_⟩
    have := hr x e hx he
    omega)
  exact ⟨key.1.lo, key.1.loJ, fun x hx => key.1.sd x hx (key.2 x hx (hb x hx))⟩
/-- .. and so the reference works out what the keeper keeps -/
abbrev k_Wk2 (nA : Nat) (I : k_I) (J : k_J) (s : k_IJ) : Prop := (∀ c, c < 39 → s.1 c = I c) ∧ (∀ c, c < 39 → s.2 c = J c) ∧ (∀ i, i < nA → s.2 40 0 i = J 8 i 5) ∧ (∀ i, i < nA → ∀ k, k < 3 → s.1 41 0 (3 * i + k) = I 9 i k) ∧ (∀ i, i < nA → s.1 42 0 i = I 8 i 6) ∧ (∀ i, i < nA → (s.1 43 0 i = 0 ↔ I 8 i 11 = 0))
theorem k_Wk2.lo {nA : Nat} {I : k_I} {J : k_J} {s : k_IJ} (h_ : k_Wk2 nA I J s) : ∀ c, c < 39 → s.1 c = I c := h_.1
theorem k_Wk2.loJ {nA : Nat} {I : k_I} {J : k_J} {s : k_IJ} (h_ : k_Wk2 nA I J s) : ∀ c, c < 39 → s.2 c = J c := h_.2.1
theorem k_Wk2.fw {nA : Nat} {I : k_I} {J : k_J} {s : k_IJ} (h_ : k_Wk2 nA I J s) : ∀ i, i < nA → s.2 40 0 i = J 8 i 5 := h_.2.2.1
theorem k_Wk2.fs {nA : Nat} {I : k_I} {J : k_J} {s : k_IJ} (h_ : k_Wk2 nA I J s) : ∀ i, i < nA → ∀ k, k < 3 → s.1 41 0 (3 * i + k) = I 9 i k := h_.2.2.2.1
theorem k_Wk2.ft {nA : Nat} {I : k_I} {J : k_J} {s : k_IJ} (h_ : k_Wk2 nA I J s) : ∀ i, i < nA → s.1 42 0 i = I 8 i 6 := h_.2.2.2.2.1
theorem k_Wk2.fd {nA : Nat} {I : k_I} {J : k_J} {s : k_IJ} (h_ : k_Wk2 nA I J s) : ∀ i, i < nA → (s.1 43 0 i = 0 ↔ I 8 i 11 = 0) := h_.2.2.2.2.2
theorem mWork_eq {nA nK : Nat} {E : Nat → Nat} {I : k_I} {J : k_J} (h : RR nA nK E I J) : k_Wk2 nA I J (mWork E nA (I, J)) := by
  obtain ⟨h1, h2, h3⟩ := mWork_v h.ms h.raw.mr (J := J)
  refine ⟨h1, h2, fun i hi => l_ext fun b hb => ?_, fun i hi k hk => b_ext fun b hb => ?_, fun i hi => b_ext fun b hb => ?_, fun i hi => ?_⟩
  · exact bool_iff (((h3 i hi).fw b).trans (h.set.w i hi b hb).symm)
  · exact bool_iff (((h3 i hi).fs k hk b).trans (h.set.s i hi k hk b hb).symm)
  · exact bool_iff (((h3 i hi).ft b).trans (h.set.t i hi b hb).symm)
  · have key := (h3 i hi).fd.trans (h.set.d i hi).2.symm
    exact ⟨fun h => Classical.byContradiction fun h2 => key.mpr h2 h, fun h => Classical.byContradiction fun h2 => key.mp h2 h⟩
