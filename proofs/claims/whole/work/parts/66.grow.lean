/-! one answer more -/
abbrev k_Old (n : Nat) (I : k_I) (J : k_J) (X : k_I) (Y : k_J) : Prop := (∀ c, c ≠ 0 → c ≠ 6 → c ≠ 8 → c ≠ 9 → c ≠ 10 → c ≠ 13 → (c < 27 ∨ 35 < c) → c < 39 → X c = I c) ∧ (∀ k, k ≠ 4 → X 0 0 k = I 0 0 k) ∧ (∀ k, k ≠ 6 → X 13 0 k = I 13 0 k) ∧ (∀ x, x ≠ n → X 8 x = I 8 x ∧ X 9 x = I 9 x ∧ X 10 x = I 10 x) ∧ (∀ c, 27 ≤ c → c ≤ 34 → c ≠ 31 → ∀ x, x ≠ n → X c 0 x = I c 0 x) ∧ (∀ x, x ≠ n → ∀ k, k < 3 → X 31 0 (3 * x + k) = I 31 0 (3 * x + k)) ∧ (∀ x, x ≠ n → ∀ k, k < 4 → X 35 0 (4 * x + k) = I 35 0 (4 * x + k)) ∧ (∀ c, c ≠ 8 → c ≠ 29 → c < 39 → Y c = J c) ∧ (∀ x, x ≠ n → Y 8 x = J 8 x ∧ Y 29 0 x = J 29 0 x)
theorem k_Old.oc {n : Nat} {I : k_I} {J : k_J} {X : k_I} {Y : k_J} (h_ : k_Old n I J X Y) : ∀ c, c ≠ 0 → c ≠ 6 → c ≠ 8 → c ≠ 9 → c ≠ 10 → c ≠ 13 → (c < 27 ∨ 35 < c) → c < 39 → X c = I c := h_.1
theorem k_Old.o0 {n : Nat} {I : k_I} {J : k_J} {X : k_I} {Y : k_J} (h_ : k_Old n I J X Y) : ∀ k, k ≠ 4 → X 0 0 k = I 0 0 k := h_.2.1
theorem k_Old.o13 {n : Nat} {I : k_I} {J : k_J} {X : k_I} {Y : k_J} (h_ : k_Old n I J X Y) : ∀ k, k ≠ 6 → X 13 0 k = I 13 0 k := h_.2.2.1
theorem k_Old.o8 {n : Nat} {I : k_I} {J : k_J} {X : k_I} {Y : k_J} (h_ : k_Old n I J X Y) : ∀ x, x ≠ n → X 8 x = I 8 x ∧ X 9 x = I 9 x ∧ X 10 x = I 10 x := h_.2.2.2.1
theorem k_Old.om {n : Nat} {I : k_I} {J : k_J} {X : k_I} {Y : k_J} (h_ : k_Old n I J X Y) : ∀ c, 27 ≤ c → c ≤ 34 → c ≠ 31 → ∀ x, x ≠ n → X c 0 x = I c 0 x := h_.2.2.2.2.1
theorem k_Old.o31 {n : Nat} {I : k_I} {J : k_J} {X : k_I} {Y : k_J} (h_ : k_Old n I J X Y) : ∀ x, x ≠ n → ∀ k, k < 3 → X 31 0 (3 * x + k) = I 31 0 (3 * x + k) := h_.2.2.2.2.2.1
theorem k_Old.o35 {n : Nat} {I : k_I} {J : k_J} {X : k_I} {Y : k_J} (h_ : k_Old n I J X Y) : ∀ x, x ≠ n → ∀ k, k < 4 → X 35 0 (4 * x + k) = I 35 0 (4 * x + k) := h_.2.2.2.2.2.2.1
theorem k_Old.oJ {n : Nat} {I : k_I} {J : k_J} {X : k_I} {Y : k_J} (h_ : k_Old n I J X Y) : ∀ c, c ≠ 8 → c ≠ 29 → c < 39 → Y c = J c := h_.2.2.2.2.2.2.2.1
theorem k_Old.oJ8 {n : Nat} {I : k_I} {J : k_J} {X : k_I} {Y : k_J} (h_ : k_Old n I J X Y) : ∀ x, x ≠ n → Y 8 x = J 8 x ∧ Y 29 0 x = J 29 0 x := h_.2.2.2.2.2.2.2.2
abbrev k_NwA (n : Nat) (X : k_I) (Y : k_J) : Prop := (X 8 n 0 = nI n) ∧ (X 8 n 1 = X 27 0 n ∧ (X 27 0 n = 0 ∨ X 27 0 n = 1)) ∧ (X 8 n 2 = X 30 0 n) ∧ (X 8 n 9 = nI n) ∧ (X 8 n 8 = X 34 0 n) ∧ (∀ k, k < 4 → X 10 n k = X 35 0 (4 * n + k)) ∧ (∀ k, k < 4 → X 35 0 (4 * n + k) = -1 ∨ ∃ p, p < n ∧ X 35 0 (4 * n + k) = nI p) ∧ (∀ k, k < 3 → X 35 0 (4 * n + k) < 0 → X 35 0 (4 * n + (k + 1)) < 0) ∧ (X 27 0 n = 0 → ∀ k, k < 4 → X 35 0 (4 * n + k) < 0) ∧ (X 27 0 n = 0 → Y 8 n 5 = Y 29 0 n) ∧ (X 27 0 n = 0 → ∀ k, k < 3 → X 9 n k = X 31 0 (3 * n + k) ∧ ∀ b, 10 ≤ b → bt (X 31 0 (3 * n + k)) b = false) ∧ (X 27 0 n = 0 → X 8 n 6 = X 32 0 n) ∧ (X 27 0 n = 0 → X 8 n 7 = X 33 0 n) ∧ (X 28 0 n = -1)
theorem k_NwA.num {n : Nat} {X : k_I} {Y : k_J} (h_ : k_NwA n X Y) : X 8 n 0 = nI n := h_.1
theorem k_NwA.kind {n : Nat} {X : k_I} {Y : k_J} (h_ : k_NwA n X Y) : X 8 n 1 = X 27 0 n ∧ (X 27 0 n = 0 ∨ X 27 0 n = 1) := h_.2.1
theorem k_NwA.steps {n : Nat} {X : k_I} {Y : k_J} (h_ : k_NwA n X Y) : X 8 n 2 = X 30 0 n := h_.2.2.1
theorem k_NwA.ends {n : Nat} {X : k_I} {Y : k_J} (h_ : k_NwA n X Y) : X 8 n 9 = nI n := h_.2.2.2.1
theorem k_NwA.votes {n : Nat} {X : k_I} {Y : k_J} (h_ : k_NwA n X Y) : X 8 n 8 = X 34 0 n := h_.2.2.2.2.1
theorem k_NwA.parts {n : Nat} {X : k_I} {Y : k_J} (h_ : k_NwA n X Y) : ∀ k, k < 4 → X 10 n k = X 35 0 (4 * n + k) := h_.2.2.2.2.2.1
theorem k_NwA.pts {n : Nat} {X : k_I} {Y : k_J} (h_ : k_NwA n X Y) : ∀ k, k < 4 → X 35 0 (4 * n + k) = -1 ∨ ∃ p, p < n ∧ X 35 0 (4 * n + k) = nI p := h_.2.2.2.2.2.2.1
theorem k_NwA.pre {n : Nat} {X : k_I} {Y : k_J} (h_ : k_NwA n X Y) : ∀ k, k < 3 → X 35 0 (4 * n + k) < 0 → X 35 0 (4 * n + (k + 1)) < 0 := h_.2.2.2.2.2.2.2.1
theorem k_NwA.nop {n : Nat} {X : k_I} {Y : k_J} (h_ : k_NwA n X Y) : X 27 0 n = 0 → ∀ k, k < 4 → X 35 0 (4 * n + k) < 0 := h_.2.2.2.2.2.2.2.2.1
theorem k_NwA.words {n : Nat} {X : k_I} {Y : k_J} (h_ : k_NwA n X Y) : X 27 0 n = 0 → Y 8 n 5 = Y 29 0 n := h_.2.2.2.2.2.2.2.2.2.1
theorem k_NwA.sets {n : Nat} {X : k_I} {Y : k_J} (h_ : k_NwA n X Y) : X 27 0 n = 0 → ∀ k, k < 3 → X 9 n k = X 31 0 (3 * n + k) ∧ ∀ b, 10 ≤ b → bt (X 31 0 (3 * n + k)) b = false := h_.2.2.2.2.2.2.2.2.2.2.1
theorem k_NwA.bound {n : Nat} {X : k_I} {Y : k_J} (h_ : k_NwA n X Y) : X 27 0 n = 0 → X 8 n 6 = X 32 0 n := h_.2.2.2.2.2.2.2.2.2.2.2.1
theorem k_NwA.sure {n : Nat} {X : k_I} {Y : k_J} (h_ : k_NwA n X Y) : X 27 0 n = 0 → X 8 n 7 = X 33 0 n := h_.2.2.2.2.2.2.2.2.2.2.2.2.1
theorem k_NwA.lead {n : Nat} {X : k_I} {Y : k_J} (h_ : k_NwA n X Y) : X 28 0 n = -1 := h_.2.2.2.2.2.2.2.2.2.2.2.2.2
def g_Ew (E : Nat → Nat) (n : Nat) : Nat → Nat := fun x => if x = n then n else E x
theorem mPath_grow {n : Nat} {f g : Nat → Int32} (hn : n < 24) (hl : ∀ a, a < n → f a < 0 ∨ ∃ b, b < n ∧ f a = nI b) (hg : ∀ a, a < n → g a = f a) : ∀ {d a e : Nat}, a < n → mPath f d a e → mPath g d a e
  | 0, a, e, ha, h => ⟨h.1, h.2.1, by rw [hg a ha]; exact h.2.2⟩
  | d + 1, a, e, ha, h => by
    obtain ⟨h1, h2, b, h3, h4, h5⟩ := h
    rcases hl a ha with q | ⟨b2, hb2, e2⟩
    · exact absurd q h2
    · have : b = b2 := (nI_eq (by omega) (by omega)).mp (h3.symm.trans e2)
      subst this
      exact ⟨h1, by rw [hg a ha]; exact h2, b, by rw [hg a ha]; exact h3, h4, mPath_grow hn hl hg hb2 h5⟩
theorem m_S.grow {n nK : Nat} {E : Nat → Nat} {I X : k_I} {J Y : k_J} (ms : m_S n nK E I) (led : g_Led n I) (o : k_Old n I J X Y) (w : k_NwA n X Y) (hn : n < 24) (h6 : X 13 0 6 = nI (n + 1)) : m_S (n + 1) nK (g_Ew E n) X := by
  obtain ⟨a1, a2, a3, a4, a5, a6⟩ := ms
  refine ⟨h6, (o.o13 16 (by decide)).trans a2, by omega, a4, fun a ha => ?_, fun j hj => ?_⟩
  · unfold g_Ew
    by_cases han : a = n
    · rw [if_pos han]
      refine ⟨by omega, 0, han, by omega, ?_⟩
      rw [han, w.lead]; decide
    · rw [if_neg han]
      obtain ⟨b1, d, b2⟩ := a5 a (by omega)
      exact ⟨by omega, d, mPath_grow hn led (fun x hx => o.om 28 (by decide) (by decide) (by decide) x (by omega)) (by omega) b2⟩
  · by_cases hjn : j < 4 * n
    · have e : j = 4 * (j / 4) + j % 4 := by omega
      have := o.o35 (j / 4) (by omega) (j % 4) (by omega)
      rw [← e] at this
      rw [this]
      rcases a6 j hjn with q | ⟨p, hp, q⟩
      · exact Or.inl q
      · exact Or.inr ⟨p, by omega, q⟩
    · have e : j = 4 * n + (j - 4 * n) := by omega
      rw [e]
      rcases w.pts (j - 4 * n) (by omega) with q | ⟨p, hp, q⟩
      · rw [q]; exact Or.inl (by decide)
      · exact Or.inr ⟨p, by omega, q⟩
theorem g_Led.grow {n : Nat} {I X : k_I} {J Y : k_J} (led : g_Led n I) (o : k_Old n I J X Y) (w : k_NwA n X Y) : g_Led (n + 1) X := by
  intro a ha
  by_cases han : a = n
  · subst han; rw [w.lead]; exact Or.inl (by decide)
  · rw [o.om 28 (by decide) (by decide) (by decide) a han]
    rcases led a (by omega) with q | ⟨b, hb, q⟩
    · exact Or.inl q
    · exact Or.inr ⟨b, by omega, q⟩
theorem k_Raw.grow {n nK : Nat} {E : Nat → Nat} {I X : k_I} {J Y : k_J} (raw : k_Raw n nK E I J) (ms : m_S n nK E I) (o : k_Old n I J X Y) (w : k_NwA n X Y) (hn : n < 24) : k_Raw (n + 1) nK (g_Ew E n) X Y := by
  have q : ∀ c, c ≠ 0 → c ≠ 6 → c ≠ 8 → c ≠ 9 → c ≠ 10 → c ≠ 13 → (c < 27 ∨ 35 < c) → c < 39 → X c = I c := o.oc
  refine ⟨?_, ?_, ?_, ?_, ?_, ?_, ?_, ?_, ?_, ?_, ?_, ?_, ?_, ?_, ?_, ?_, ?_, ?_, ?_, ?_⟩
  · rw [o.o0 6 (by decide), o.o13 4 (by decide)]; exact raw.near
  · rw [o.o0 7 (by decide), o.o13 5 (by decide)]; exact raw.lim
  · rw [q 2 (by decide) (by decide) (by decide) (by decide) (by decide) (by decide) (by decide) (by decide), q 20 (by decide) (by decide) (by decide) (by decide) (by decide) (by decide) (by decide) (by decide)]; exact raw.fold
  · rw [q 3 (by decide) (by decide) (by decide) (by decide) (by decide) (by decide) (by decide) (by decide), o.o13 3 (by decide)]; exact raw.clock
  · rw [q 4 (by decide) (by decide) (by decide) (by decide) (by decide) (by decide) (by decide) (by decide), q 5 (by decide) (by decide) (by decide) (by decide) (by decide) (by decide) (by decide) (by decide), q 21 (by decide) (by decide) (by decide) (by decide) (by decide) (by decide) (by decide) (by decide), q 22 (by decide) (by decide) (by decide) (by decide) (by decide) (by decide) (by decide) (by decide)]; exact raw.things
  · intro i hi
    by_cases hin : i = n
    · subst hin; exact w.num
    · rw [(o.o8 i hin).1]; exact raw.num i (by omega)
  · intro i hi
    by_cases hin : i = n
    · subst hin; exact w.kind
    · rw [(o.o8 i hin).1, o.om 27 (by decide) (by decide) (by decide) i hin]; exact raw.kind i (by omega)
  · intro i hi
    by_cases hin : i = n
    · subst hin; exact w.steps
    · rw [(o.o8 i hin).1, o.om 30 (by decide) (by decide) (by decide) i hin]; exact raw.steps i (by omega)
  · intro i hi
    unfold g_Ew
    by_cases hin : i = n
    · rw [if_pos hin, hin]; exact w.ends
    · rw [if_neg hin, (o.o8 i hin).1]; exact raw.ends i (by omega)
  · intro i hi
    by_cases hin : i = n
    · subst hin; exact w.votes
    · rw [(o.o8 i hin).1, o.om 34 (by decide) (by decide) (by decide) i hin]; exact raw.votes i (by omega)
  · intro i hi k hk
    by_cases hin : i = n
    · subst hin
      refine ⟨w.parts k hk, fun hneg => ?_⟩
      rcases w.pts k hk with z | ⟨p, hp, z⟩
      · exact z
      · rw [z] at hneg; exact absurd hneg (nI_pos (by omega))
    · rw [(o.o8 i hin).2.2, o.o35 i hin k hk]; exact raw.parts i (by omega) k hk
  · intro i hi k hk
    by_cases hin : i = n
    · subst hin; exact w.pre k hk
    · rw [o.o35 i hin k (by omega), o.o35 i hin (k + 1) (by omega)]; exact raw.pre i (by omega) k hk
  · intro i hi
    by_cases hin : i = n
    · subst hin; exact w.nop
    · rw [o.om 27 (by decide) (by decide) (by decide) i hin]
      intro h0 k hk
      rw [o.o35 i hin k hk]; exact raw.noparts i (by omega) h0 k hk
  · intro i hi
    by_cases hin : i = n
    · subst hin; exact w.words
    · rw [o.om 27 (by decide) (by decide) (by decide) i hin, (o.oJ8 i hin).1, (o.oJ8 i hin).2]; exact raw.words i (by omega)
  · intro i hi
    by_cases hin : i = n
    · subst hin; exact w.sets
    · rw [o.om 27 (by decide) (by decide) (by decide) i hin]
      intro h0 k hk
      rw [(o.o8 i hin).2.1, o.o31 i hin k hk]; exact raw.sets i (by omega) h0 k hk
  · intro i hi
    by_cases hin : i = n
    · subst hin; exact w.bound
    · rw [o.om 27 (by decide) (by decide) (by decide) i hin, (o.o8 i hin).1, o.om 32 (by decide) (by decide) (by decide) i hin]; exact raw.bound i (by omega)
  · intro i hi
    by_cases hin : i = n
    · subst hin; exact w.sure
    · rw [o.om 27 (by decide) (by decide) (by decide) i hin, (o.o8 i hin).1, o.om 33 (by decide) (by decide) (by decide) i hin]; exact raw.sure i (by omega)
  · rw [o.oJ 11 (by decide) (by decide) (by decide), o.oJ 37 (by decide) (by decide) (by decide)]; exact raw.askw
  · rw [q 12 (by decide) (by decide) (by decide) (by decide) (by decide) (by decide) (by decide) (by decide), q 38 (by decide) (by decide) (by decide) (by decide) (by decide) (by decide) (by decide) (by decide)]; exact raw.askv
  · obtain ⟨r0, hr0⟩ := raw.rank
    obtain ⟨r, hr, hb⟩ := g_R_small hr0 (fun x e hx he => g_E_lt ms hx he)
    refine ⟨fun x => if x = n then n else r x, fun x e hx he => ?_⟩
    obtain ⟨k, hk, hp, rfl⟩ := he
    by_cases hxn : x = n
    · subst hxn
      rcases w.pts k hk with z | ⟨p, hp2, z⟩
      · rw [z] at hp; exact absurd (by decide) hp
      · rw [z, mE_n (by omega)]
        have hE := (ms.2.2.2.2.1 p hp2).1
        have e1 : g_Ew E x p = E p := if_neg (by omega)
        have := hb (E p) hE
        simp only [e1, if_true]
        rw [if_neg (by omega)]
        exact this
    · rw [o.o35 x hxn k hk] at hp ⊢
      obtain ⟨p, hp2, z⟩ := ms.part (j := 4 * x + k) (by omega) hp
      have hE := (ms.2.2.2.2.1 p hp2).1
      have e1 : mE (g_Ew E n) (I 35 0 (4 * x + k)) = mE E (I 35 0 (4 * x + k)) := by
        rw [z, mE_n (by omega), mE_n (by omega)]
        exact if_neg (by omega)
      have e2 : mE E (I 35 0 (4 * x + k)) < n := by rw [z, mE_n (by omega)]; exact hE
      have := hr x _ (by omega) ⟨k, hk, hp, rfl⟩
      simp only [e1, if_neg hxn]
      rw [if_neg (by omega)]
      exact this
theorem k_S.grow {n nK : Nat} {I X : k_I} {J Y : k_J} (ks : k_S n nK I) (o : k_Old n I J X Y) (hn : n < 24) (h4 : X 0 0 4 = nI (n + 1)) (h6 : ∀ j, X 6 0 j = if j = n then 1 else I 6 0 j) : k_S (n + 1) nK X := by
  obtain ⟨a1, a2, a3, a4, a5, a6⟩ := ks
  refine ⟨h4, (o.o0 5 (by decide)).trans a2, by omega, a4, fun j hj => ?_, ?_⟩
  · rw [h6]
    by_cases hjn : j = n
    · rw [if_pos hjn]; decide
    · rw [if_neg hjn]; exact a5 j (by omega)
  · rw [o.oc 7 (by decide) (by decide) (by decide) (by decide) (by decide) (by decide) (by decide) (by decide)]; exact a6
/-! the reference's new one -/
theorem mFr_hi {n : Nat} {k : Int32} {S K : k_I} (h : ∀ c, 13 ≤ c → S c = K c) : ∀ c, 13 ≤ c → mFr n k S c = mFr n k K c := by
  have h1 : ∀ c, 13 ≤ c → mFr1 n k S c = mFr1 n k K c := hi_mw (hi_mw (hi_mw h (by decide)) (by decide)) (by decide)
  have h2 : ∀ c, 13 ≤ c → mw 32 n 0 (mFr1 n k S) c = mw 32 n 0 (mFr1 n k K) c := hi_mw h1 (by decide)
  have h3 : ∀ c, 13 ≤ c → mFr3 n (mFr1 n k S) c = mFr3 n (mFr1 n k K) c := by
    unfold mFr3 mFr2
    rw [h2 13 (by decide)]
    exact hi_mw (hi_mw h2 (by decide)) (by decide)
  have h4 : ∀ c, 13 ≤ c → mFr4 n (mFr3 n (mFr1 n k S)) c = mFr4 n (mFr3 n (mFr1 n k K)) c := kLoop_rel (R := fun S K : k_I => ∀ c, 13 ≤ c → S c = K c) (f := fun k I => mw 35 (4 * n + k) (-1) I) (g := fun k I => mw 35 (4 * n + k) (-1) I) (fun k S K h => hi_mw h (by decide)) 4 0 _ _ h3
  unfold mFr mFr5
  rw [h4 13 (by decide)]
  exact hi_up h4
abbrev k_Fr (n : Nat) (k : Int32) (I Z : k_I) : Prop := (∀ c, c ≠ 13 → (c < 27 ∨ 35 < c ∨ c = 29 ∨ c = 31) → Z c = I c) ∧ (∀ j, j ≠ 6 → Z 13 0 j = I 13 0 j) ∧ (Z 13 0 6 = I 13 0 6 + 1) ∧ (∀ x, Z 27 0 x = if x = n then k else I 27 0 x) ∧ (∀ x, Z 28 0 x = if x = n then -1 else I 28 0 x) ∧ (∀ x, Z 30 0 x = if x = n then -1 else I 30 0 x) ∧ (∀ x, Z 32 0 x = if x = n then 0 else I 32 0 x) ∧ (∀ x, Z 33 0 x = if x = n then I 13 0 3 else I 33 0 x) ∧ (∀ x, Z 34 0 x = if x = n then 0 else I 34 0 x) ∧ (∀ x, x ≠ n → ∀ k, k < 4 → Z 35 0 (4 * x + k) = I 35 0 (4 * x + k)) ∧ (∀ k, k < 4 → Z 35 0 (4 * n + k) = -1)
theorem k_Fr.fc {n : Nat} {k : Int32} {I Z : k_I} (h_ : k_Fr n k I Z) : ∀ c, c ≠ 13 → (c < 27 ∨ 35 < c ∨ c = 29 ∨ c = 31) → Z c = I c := h_.1
theorem k_Fr.f13 {n : Nat} {k : Int32} {I Z : k_I} (h_ : k_Fr n k I Z) : ∀ j, j ≠ 6 → Z 13 0 j = I 13 0 j := h_.2.1
theorem k_Fr.f6 {n : Nat} {k : Int32} {I Z : k_I} (h_ : k_Fr n k I Z) : Z 13 0 6 = I 13 0 6 + 1 := h_.2.2.1
theorem k_Fr.f27 {n : Nat} {k : Int32} {I Z : k_I} (h_ : k_Fr n k I Z) : ∀ x, Z 27 0 x = if x = n then k else I 27 0 x := h_.2.2.2.1
theorem k_Fr.f28 {n : Nat} {k : Int32} {I Z : k_I} (h_ : k_Fr n k I Z) : ∀ x, Z 28 0 x = if x = n then -1 else I 28 0 x := h_.2.2.2.2.1
theorem k_Fr.f30 {n : Nat} {k : Int32} {I Z : k_I} (h_ : k_Fr n k I Z) : ∀ x, Z 30 0 x = if x = n then -1 else I 30 0 x := h_.2.2.2.2.2.1
theorem k_Fr.f32 {n : Nat} {k : Int32} {I Z : k_I} (h_ : k_Fr n k I Z) : ∀ x, Z 32 0 x = if x = n then 0 else I 32 0 x := h_.2.2.2.2.2.2.1
theorem k_Fr.f33 {n : Nat} {k : Int32} {I Z : k_I} (h_ : k_Fr n k I Z) : ∀ x, Z 33 0 x = if x = n then I 13 0 3 else I 33 0 x := h_.2.2.2.2.2.2.2.1
theorem k_Fr.f34 {n : Nat} {k : Int32} {I Z : k_I} (h_ : k_Fr n k I Z) : ∀ x, Z 34 0 x = if x = n then 0 else I 34 0 x := h_.2.2.2.2.2.2.2.2.1
theorem k_Fr.f35 {n : Nat} {k : Int32} {I Z : k_I} (h_ : k_Fr n k I Z) : ∀ x, x ≠ n → ∀ k, k < 4 → Z 35 0 (4 * x + k) = I 35 0 (4 * x + k) := h_.2.2.2.2.2.2.2.2.2.1
theorem k_Fr.f35n {n : Nat} {k : Int32} {I Z : k_I} (h_ : k_Fr n k I Z) : ∀ k, k < 4 → Z 35 0 (4 * n + k) = -1 := h_.2.2.2.2.2.2.2.2.2.2
theorem mFr_v {n : Nat} {k : Int32} {I : k_I} : k_Fr n k I (mFr n k I) := by
  have key := kLoop_i0 (step := fun k I => mw 35 (4 * n + k) (-1) I) (fun m r => (∀ c, c ≠ 35 → r c = mFr3 n (mFr1 n k I) c) ∧ (∀ x, x ≠ n → ∀ k', k' < 4 → r 35 0 (4 * x + k') = mFr3 n (mFr1 n k I) 35 0 (4 * x + k')) ∧ ∀ k', k' < m → r 35 0 (4 * n + k') = -1) 4 (mFr3 n (mFr1 n k I)) ⟨fun _ _ => rfl, fun _ _ _ _ => rfl, fun k hk => absurd hk (Nat.not_lt_zero _)⟩ (by
    rintro m r hm ⟨h1, h2, h3⟩
    refine ⟨fun c hc => (mw_C hc).trans (h1 c hc), fun x hx k' hk => ?_, fun k' hk => ?_⟩
    · rw [mw_s, upd_n (by omega)]; exact h2 x hx k' hk
    · rw [mw_s]
      by_cases e : k' = m
      · subst e; rw [upd_s]
      · rw [upd_n (by omega)]; exact h3 k' (by omega))
  rw [show kLoop (fun k I => mw 35 (4 * n + k) (-1) I) 4 0 (mFr3 n (mFr1 n k I)) = mFr4 n (mFr3 n (mFr1 n k I)) from rfl] at key
  obtain ⟨k1, k2, k3⟩ := key
  unfold mFr
  generalize mFr4 n (mFr3 n (mFr1 n k I)) = R at k1 k2 k3
  have r5 : ∀ c, c ≠ 13 → mFr5 R c = R c := fun c hc => k_up_C hc
  have r13 : mFr5 R 13 0 = upd (R 13 0) 6 (R 13 0 6 + 1) := k_up_s
  have b1 : ∀ c, c ≠ 27 → c ≠ 28 → c ≠ 30 → mFr1 n k I c = I c := fun c h1 h2 h3 => (mw_C h3).trans ((mw_C h2).trans (mw_C h1))
  have b3 : ∀ c, c ≠ 27 → c ≠ 28 → c ≠ 30 → c ≠ 32 → c ≠ 33 → c ≠ 34 → mFr3 n (mFr1 n k I) c = I c := fun c h1 h2 h3 h4 h5 h6 => (mw_C h6).trans ((mw_C h5).trans ((mw_C h4).trans (b1 c h1 h2 h3)))
  have c13 : R 13 = I 13 := (k1 13 (by decide)).trans (b3 13 (by decide) (by decide) (by decide) (by decide) (by decide) (by decide))
  have b27 : mFr3 n (mFr1 n k I) 27 = mFr1 n k I 27 := (mw_C (by decide)).trans ((mw_C (by decide)).trans (mw_C (by decide)))
  have b28 : mFr3 n (mFr1 n k I) 28 = mFr1 n k I 28 := (mw_C (by decide)).trans ((mw_C (by decide)).trans (mw_C (by decide)))
  have b30 : mFr3 n (mFr1 n k I) 30 = mFr1 n k I 30 := (mw_C (by decide)).trans ((mw_C (by decide)).trans (mw_C (by decide)))
  refine ⟨fun c h13 hc => ?_, fun j hj => ?_, ?_, fun x => ?_, fun x => ?_, fun x => ?_, fun x => ?_, fun x => ?_, fun x => ?_, fun x hx k' hk => ?_, fun k' hk => ?_⟩
  · rw [r5 c h13, k1 c (by omega), b3 c (by omega) (by omega) (by omega) (by omega) (by omega) (by omega)]
  · rw [r13, upd_n hj, c13]
  · rw [r13, upd_s, c13]
  · rw [r5 27 (by decide), k1 27 (by decide), b27]
    unfold mFr1
    rw [mw_C (by decide), mw_C (by decide)]; exact mwx
  · rw [r5 28 (by decide), k1 28 (by decide), b28]
    unfold mFr1
    rw [mw_C (by decide), mwx, mw_C (by decide)]
  · rw [r5 30 (by decide), k1 30 (by decide), b30]
    unfold mFr1
    rw [mwx, mw_C (by decide), mw_C (by decide)]
  · rw [r5 32 (by decide), k1 32 (by decide)]
    unfold mFr3 mFr2
    rw [mw_C (by decide), mw_C (by decide), mwx, b1 32 (by decide) (by decide) (by decide)]
  · rw [r5 33 (by decide), k1 33 (by decide)]
    unfold mFr3 mFr2
    rw [mw_C (by decide), mwx, mw_C (by decide), mw_C (by decide), b1 13 (by decide) (by decide) (by decide), b1 33 (by decide) (by decide) (by decide)]
  · rw [r5 34 (by decide), k1 34 (by decide)]
    unfold mFr3
    rw [mwx]
    unfold mFr2
    rw [mw_C (by decide), mw_C (by decide), b1 34 (by decide) (by decide) (by decide)]
  · rw [r5 35 (by decide), k2 x hx k' hk, b3 35 (by decide) (by decide) (by decide) (by decide) (by decide) (by decide)]
  · rw [r5 35 (by decide), k3 k' hk]
