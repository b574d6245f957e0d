/-! the pure part: what ties the keeper's slots to the reference's -/
theorem kLoop_ind {α : Type} {step : Nat → α → α} (P : Nat → α → Prop) : ∀ (d i : Nat) (a : α), P i a → (∀ j a, i ≤ j → j < i + d → P j a → P (j + 1) (step j a)) → P (i + d) (kLoop step d i a)
  | 0, i, a, h, _ => h
  | d + 1, i, a, h, hs => by
    have h1 := kLoop_ind P d (i + 1) (step i a) (hs i a (Nat.le_refl _) (by omega) h) (fun j a h1 h2 => hs j a (by omega) (by omega))
    rw [show i + 1 + d = i + (d + 1) by omega] at h1
    exact h1
theorem kLoop_i0 {α : Type} {step : Nat → α → α} (P : Nat → α → Prop) (d : Nat) (a : α) (h : P 0 a) (hs : ∀ j a, j < d → P j a → P (j + 1) (step j a)) : P d (kLoop step d 0 a) := by
  have := kLoop_ind P d 0 a h (fun j a _ h2 => hs j a (by omega))
  rw [Nat.zero_add] at this
  exact this
theorem kAny_iff {q : Nat → Bool} : ∀ {d i : Nat}, kAny q d i = true ↔ ∃ j, i ≤ j ∧ j < i + d ∧ q j = true
  | 0, i => ⟨fun h => (by cases h), fun ⟨j, h1, h2, _⟩ => (by omega)⟩
  | d + 1, i => by
    unfold kAny
    rw [Bool.or_eq_true, kAny_iff]
    constructor
    · rintro (h | ⟨j, h1, h2, h3⟩)
      · exact ⟨i, Nat.le_refl _, by omega, h⟩
      · exact ⟨j, by omega, by omega, h3⟩
    · rintro ⟨j, h1, h2, h3⟩
      by_cases h : j = i
      · subst h; exact Or.inl h3
      · exact Or.inr ⟨j, by omega, by omega, h3⟩
theorem kAny_0 {q : Nat → Bool} {d : Nat} : kAny q d 0 = true ↔ ∃ j, j < d ∧ q j = true := by
  rw [kAny_iff]
  constructor
  · rintro ⟨j, _, h2, h3⟩; exact ⟨j, by omega, h3⟩
  · rintro ⟨j, h2, h3⟩; exact ⟨j, by omega, by omega, h3⟩
theorem bool_iff {a b : Bool} (h : a = true ↔ b = true) : a = b := by
  cases a <;> cases b <;> simp_all
/-! the graph: from a joined one to the ends of its parts -/
def g_E (E : Nat → Nat) (P : Nat → Int32) (x e : Nat) : Prop := ∃ k, k < 4 ∧ ¬ P (4 * x + k) < 0 ∧ e = mE E (P (4 * x + k))
def g_Un (E : Nat → Nat) (P : Nat → Int32) : Nat → Nat → Nat → Prop
  | 0, x, y => g_E E P x y
  | n + 1, x, y => ∃ e, g_E E P x e ∧ g_Un E P n e y
def g_U (E : Nat → Nat) (P : Nat → Int32) (x y : Nat) : Prop := ∃ n, g_Un E P n x y
theorem g_U.one {E : Nat → Nat} {P : Nat → Int32} {x e : Nat} (h : g_E E P x e) : g_U E P x e := ⟨0, h⟩
theorem g_U.more {E : Nat → Nat} {P : Nat → Int32} {x e y : Nat} (h : g_E E P x e) (h2 : g_U E P e y) : g_U E P x y := by
  obtain ⟨n, h2⟩ := h2
  exact ⟨n + 1, e, h, h2⟩
theorem g_U.ind {E : Nat → Nat} {P : Nat → Int32} {M : Nat → Nat → Prop} (h1 : ∀ x e, g_E E P x e → M x e) (h2 : ∀ x e y, g_E E P x e → g_U E P e y → M e y → M x y) {x y : Nat} (h : g_U E P x y) : M x y := by
  obtain ⟨n, h⟩ := h
  induction n generalizing x with
  | zero => exact h1 x y h
  | succ n ih =>
    obtain ⟨e, he, hu⟩ := h
    exact h2 x e y he ⟨n, hu⟩ (ih hu)
theorem g_U_iff {E : Nat → Nat} {P : Nat → Int32} {x y : Nat} : g_U E P x y ↔ ∃ e, g_E E P x e ∧ (y = e ∨ g_U E P e y) := by
  constructor
  · intro h
    exact g_U.ind (M := fun x y => ∃ e, g_E E P x e ∧ (y = e ∨ g_U E P e y)) (fun x e h => ⟨e, h, Or.inl rfl⟩) (fun x e y h h2 _ => ⟨e, h, Or.inr h2⟩) h
  · rintro ⟨e, h, rfl | h2⟩
    · exact .one h
    · exact .more h h2
def g_T (E : Nat → Nat) (P K : Nat → Int32) (x p : Nat) : Prop := K p = 0 ∧ (p = x ∨ g_U E P x p)
theorem g_T_iff {E : Nat → Nat} {P K : Nat → Int32} {x p : Nat} : g_T E P K x p ↔ (K p = 0 ∧ p = x) ∨ ∃ e, g_E E P x e ∧ g_T E P K e p := by
  unfold g_T
  constructor
  · rintro ⟨hk, h | h⟩
    · exact Or.inl ⟨hk, h⟩
    · obtain ⟨e, he, h⟩ := g_U_iff.mp h
      exact Or.inr ⟨e, he, hk, h⟩
  · rintro (⟨hk, h⟩ | ⟨e, he, hk, h⟩)
    · exact ⟨hk, Or.inl h⟩
    · exact ⟨hk, Or.inr (g_U_iff.mpr ⟨e, he, h⟩)⟩
/-- ranks that fall along the edges -/
def g_R (nA : Nat) (E : Nat → Nat) (P : Nat → Int32) (r : Nat → Nat) : Prop := ∀ x e, x < nA → g_E E P x e → r e < r x
/-! closed forms -/
def v_D1 (I : k_I) (p : Nat) : Prop := ∃ t, t < 10 ∧ bt (I 32 0 p) t = true ∧ ¬ I 22 0 t ≤ I 33 0 p
def v_W (E : Nat → Nat) (I : k_I) (J : k_J) (x b : Nat) : Prop := ∃ p, g_T E (I 35 0) (I 27 0) x p ∧ bl (J 29 0 p) b = true
def v_S (E : Nat → Nat) (I : k_I) (x k b : Nat) : Prop := (I 27 0 x = 0 ∨ bt (mAllOf (nI k)) b = true) ∧ ∀ p, g_T E (I 35 0) (I 27 0) x p → bt (I 31 0 (3 * p + k)) b = true
def v_B (E : Nat → Nat) (I : k_I) (x b : Nat) : Prop := ∃ p, g_T E (I 35 0) (I 27 0) x p ∧ bt (I 32 0 p) b = true
def v_D (E : Nat → Nat) (I : k_I) (x : Nat) : Prop := ∃ p, g_T E (I 35 0) (I 27 0) x p ∧ v_D1 I p
/-- the keeper's derived slots are as they should be -/
abbrev k_Set (nA nK : Nat) (E : Nat → Nat) (I : k_I) (J : k_J) : Prop := (∀ i, i < nA → ∀ b, b < 64 → (bl (J 8 i 5) b = true ↔ v_W E I J i b)) ∧ (∀ i, i < nA → ∀ k, k < 3 → ∀ b, b < 32 → (bt (I 9 i k) b = true ↔ v_S E I i k b)) ∧ (∀ i, i < nA → ∀ b, b < 32 → (bt (I 8 i 6) b = true ↔ v_B E I i b)) ∧ (∀ i, i < nA → (I 8 i 11 = 0 ∨ I 8 i 11 = 1) ∧ (¬ I 8 i 11 = 0 ↔ v_D E I i)) ∧ (∀ i, i < nA → ∀ j, j < nA → (bt (I 8 i 12) j = true ↔ g_U E (I 35 0) i j)) ∧ (∀ i, i < nA → J 8 i 10 = kFold (I 2 0) (J 8 i 5)) ∧ (∀ q, q < nK → J 11 q 2 = kFold (I 2 0) (J 11 q 0))
theorem k_Set.w {nA nK : Nat} {E : Nat → Nat} {I : k_I} {J : k_J} (h_ : k_Set nA nK E I J) : ∀ i, i < nA → ∀ b, b < 64 → (bl (J 8 i 5) b = true ↔ v_W E I J i b) := h_.1
theorem k_Set.s {nA nK : Nat} {E : Nat → Nat} {I : k_I} {J : k_J} (h_ : k_Set nA nK E I J) : ∀ i, i < nA → ∀ k, k < 3 → ∀ b, b < 32 → (bt (I 9 i k) b = true ↔ v_S E I i k b) := h_.2.1
theorem k_Set.t {nA nK : Nat} {E : Nat → Nat} {I : k_I} {J : k_J} (h_ : k_Set nA nK E I J) : ∀ i, i < nA → ∀ b, b < 32 → (bt (I 8 i 6) b = true ↔ v_B E I i b) := h_.2.2.1
theorem k_Set.d {nA nK : Nat} {E : Nat → Nat} {I : k_I} {J : k_J} (h_ : k_Set nA nK E I J) : ∀ i, i < nA → (I 8 i 11 = 0 ∨ I 8 i 11 = 1) ∧ (¬ I 8 i 11 = 0 ↔ v_D E I i) := h_.2.2.2.1
theorem k_Set.u {nA nK : Nat} {E : Nat → Nat} {I : k_I} {J : k_J} (h_ : k_Set nA nK E I J) : ∀ i, i < nA → ∀ j, j < nA → (bt (I 8 i 12) j = true ↔ g_U E (I 35 0) i j) := h_.2.2.2.2.1
theorem k_Set.f {nA nK : Nat} {E : Nat → Nat} {I : k_I} {J : k_J} (h_ : k_Set nA nK E I J) : ∀ i, i < nA → J 8 i 10 = kFold (I 2 0) (J 8 i 5) := h_.2.2.2.2.2.1
theorem k_Set.a {nA nK : Nat} {E : Nat → Nat} {I : k_I} {J : k_J} (h_ : k_Set nA nK E I J) : ∀ q, q < nK → J 11 q 2 = kFold (I 2 0) (J 11 q 0) := h_.2.2.2.2.2.2
/-- what both sides hold alike -/
abbrev k_Raw (nA nK : Nat) (E : Nat → Nat) (I : k_I) (J : k_J) : Prop := (I 0 0 6 = I 13 0 4 ∧ ∃ n, n ≤ 10 ∧ I 13 0 4 = nI n) ∧ (I 0 0 7 = I 13 0 5 ∧ ∃ n, n ≤ 200 ∧ I 13 0 5 = nI n) ∧ (∀ w, w < 40 → I 2 0 w = I 20 0 w ∧ ∃ n, n < 40 ∧ I 20 0 w = nI n) ∧ (I 3 0 2 = I 13 0 3) ∧ (∀ t, t < 10 → I 4 0 t = I 21 0 t ∧ I 5 0 t = I 22 0 t) ∧ (∀ i, i < nA → I 8 i 0 = nI i) ∧ (∀ i, i < nA → I 8 i 1 = I 27 0 i ∧ (I 27 0 i = 0 ∨ I 27 0 i = 1)) ∧ (∀ i, i < nA → I 8 i 2 = I 30 0 i) ∧ (∀ i, i < nA → I 8 i 9 = nI (E i)) ∧ (∀ i, i < nA → I 8 i 8 = I 34 0 i) ∧ (∀ i, i < nA → ∀ k, k < 4 → I 10 i k = I 35 0 (4 * i + k) ∧ (I 35 0 (4 * i + k) < 0 → I 35 0 (4 * i + k) = -1)) ∧ (∀ i, i < nA → ∀ k, k < 3 → I 35 0 (4 * i + k) < 0 → I 35 0 (4 * i + (k + 1)) < 0) ∧ (∀ i, i < nA → I 27 0 i = 0 → ∀ k, k < 4 → I 35 0 (4 * i + k) < 0) ∧ (∀ i, i < nA → I 27 0 i = 0 → J 8 i 5 = J 29 0 i) ∧ (∀ i, i < nA → I 27 0 i = 0 → ∀ k, k < 3 → I 9 i k = I 31 0 (3 * i + k) ∧ ∀ b, 10 ≤ b → bt (I 31 0 (3 * i + k)) b = false) ∧ (∀ i, i < nA → I 27 0 i = 0 → I 8 i 6 = I 32 0 i) ∧ (∀ i, i < nA → I 27 0 i = 0 → I 8 i 7 = I 33 0 i) ∧ (∀ q, q < nK → J 11 q 0 = J 37 0 q) ∧ (∀ q, q < nK → ∀ k, k < 3 → I 12 q k = I 38 0 (3 * q + k) ∧ (I 38 0 (3 * q + k) = -1 ∨ ∃ v, v < 10 ∧ I 38 0 (3 * q + k) = nI v)) ∧ (∃ r, g_R nA E (I 35 0) r)
theorem k_Raw.near {nA nK : Nat} {E : Nat → Nat} {I : k_I} {J : k_J} (h_ : k_Raw nA nK E I J) : I 0 0 6 = I 13 0 4 ∧ ∃ n, n ≤ 10 ∧ I 13 0 4 = nI n := h_.1
theorem k_Raw.lim {nA nK : Nat} {E : Nat → Nat} {I : k_I} {J : k_J} (h_ : k_Raw nA nK E I J) : I 0 0 7 = I 13 0 5 ∧ ∃ n, n ≤ 200 ∧ I 13 0 5 = nI n := h_.2.1
theorem k_Raw.fold {nA nK : Nat} {E : Nat → Nat} {I : k_I} {J : k_J} (h_ : k_Raw nA nK E I J) : ∀ w, w < 40 → I 2 0 w = I 20 0 w ∧ ∃ n, n < 40 ∧ I 20 0 w = nI n := h_.2.2.1
theorem k_Raw.clock {nA nK : Nat} {E : Nat → Nat} {I : k_I} {J : k_J} (h_ : k_Raw nA nK E I J) : I 3 0 2 = I 13 0 3 := h_.2.2.2.1
theorem k_Raw.things {nA nK : Nat} {E : Nat → Nat} {I : k_I} {J : k_J} (h_ : k_Raw nA nK E I J) : ∀ t, t < 10 → I 4 0 t = I 21 0 t ∧ I 5 0 t = I 22 0 t := h_.2.2.2.2.1
theorem k_Raw.num {nA nK : Nat} {E : Nat → Nat} {I : k_I} {J : k_J} (h_ : k_Raw nA nK E I J) : ∀ i, i < nA → I 8 i 0 = nI i := h_.2.2.2.2.2.1
theorem k_Raw.kind {nA nK : Nat} {E : Nat → Nat} {I : k_I} {J : k_J} (h_ : k_Raw nA nK E I J) : ∀ i, i < nA → I 8 i 1 = I 27 0 i ∧ (I 27 0 i = 0 ∨ I 27 0 i = 1) := h_.2.2.2.2.2.2.1
theorem k_Raw.steps {nA nK : Nat} {E : Nat → Nat} {I : k_I} {J : k_J} (h_ : k_Raw nA nK E I J) : ∀ i, i < nA → I 8 i 2 = I 30 0 i := h_.2.2.2.2.2.2.2.1
theorem k_Raw.ends {nA nK : Nat} {E : Nat → Nat} {I : k_I} {J : k_J} (h_ : k_Raw nA nK E I J) : ∀ i, i < nA → I 8 i 9 = nI (E i) := h_.2.2.2.2.2.2.2.2.1
theorem k_Raw.votes {nA nK : Nat} {E : Nat → Nat} {I : k_I} {J : k_J} (h_ : k_Raw nA nK E I J) : ∀ i, i < nA → I 8 i 8 = I 34 0 i := h_.2.2.2.2.2.2.2.2.2.1
theorem k_Raw.parts {nA nK : Nat} {E : Nat → Nat} {I : k_I} {J : k_J} (h_ : k_Raw nA nK E I J) : ∀ i, i < nA → ∀ k, k < 4 → I 10 i k = I 35 0 (4 * i + k) ∧ (I 35 0 (4 * i + k) < 0 → I 35 0 (4 * i + k) = -1) := h_.2.2.2.2.2.2.2.2.2.2.1
theorem k_Raw.pre {nA nK : Nat} {E : Nat → Nat} {I : k_I} {J : k_J} (h_ : k_Raw nA nK E I J) : ∀ i, i < nA → ∀ k, k < 3 → I 35 0 (4 * i + k) < 0 → I 35 0 (4 * i + (k + 1)) < 0 := h_.2.2.2.2.2.2.2.2.2.2.2.1
theorem k_Raw.noparts {nA nK : Nat} {E : Nat → Nat} {I : k_I} {J : k_J} (h_ : k_Raw nA nK E I J) : ∀ i, i < nA → I 27 0 i = 0 → ∀ k, k < 4 → I 35 0 (4 * i + k) < 0 := h_.2.2.2.2.2.2.2.2.2.2.2.2.1
theorem k_Raw.words {nA nK : Nat} {E : Nat → Nat} {I : k_I} {J : k_J} (h_ : k_Raw nA nK E I J) : ∀ i, i < nA → I 27 0 i = 0 → J 8 i 5 = J 29 0 i := h_.2.2.2.2.2.2.2.2.2.2.2.2.2.1
theorem k_Raw.sets {nA nK : Nat} {E : Nat → Nat} {I : k_I} {J : k_J} (h_ : k_Raw nA nK E I J) : ∀ i, i < nA → I 27 0 i = 0 → ∀ k, k < 3 → I 9 i k = I 31 0 (3 * i + k) ∧ ∀ b, 10 ≤ b → bt (I 31 0 (3 * i + k)) b = false := h_.2.2.2.2.2.2.2.2.2.2.2.2.2.2.1
theorem k_Raw.bound {nA nK : Nat} {E : Nat → Nat} {I : k_I} {J : k_J} (h_ : k_Raw nA nK E I J) : ∀ i, i < nA → I 27 0 i = 0 → I 8 i 6 = I 32 0 i := h_.2.2.2.2.2.2.2.2.2.2.2.2.2.2.2.1
theorem k_Raw.sure {nA nK : Nat} {E : Nat → Nat} {I : k_I} {J : k_J} (h_ : k_Raw nA nK E I J) : ∀ i, i < nA → I 27 0 i = 0 → I 8 i 7 = I 33 0 i := h_.2.2.2.2.2.2.2.2.2.2.2.2.2.2.2.2.1
theorem k_Raw.askw {nA nK : Nat} {E : Nat → Nat} {I : k_I} {J : k_J} (h_ : k_Raw nA nK E I J) : ∀ q, q < nK → J 11 q 0 = J 37 0 q := h_.2.2.2.2.2.2.2.2.2.2.2.2.2.2.2.2.2.1
theorem k_Raw.askv {nA nK : Nat} {E : Nat → Nat} {I : k_I} {J : k_J} (h_ : k_Raw nA nK E I J) : ∀ q, q < nK → ∀ k, k < 3 → I 12 q k = I 38 0 (3 * q + k) ∧ (I 38 0 (3 * q + k) = -1 ∨ ∃ v, v < 10 ∧ I 38 0 (3 * q + k) = nI v) := h_.2.2.2.2.2.2.2.2.2.2.2.2.2.2.2.2.2.2.1
theorem k_Raw.rank {nA nK : Nat} {E : Nat → Nat} {I : k_I} {J : k_J} (h_ : k_Raw nA nK E I J) : ∃ r, g_R nA E (I 35 0) r := h_.2.2.2.2.2.2.2.2.2.2.2.2.2.2.2.2.2.2.2

/-- leads lead to answers -/
def g_Led (nA : Nat) (I : k_I) : Prop := ∀ a, a < nA → I 28 0 a < 0 ∨ ∃ b, b < nA ∧ I 28 0 a = nI b
abbrev RR (nA nK : Nat) (E : Nat → Nat) (I : k_I) (J : k_J) : Prop := (k_S nA nK I) ∧ (m_S nA nK E I) ∧ (∀ j, nA ≤ j → I 6 0 j = 0) ∧ (∀ j, nK ≤ j → I 7 0 j = 0) ∧ (k_Raw nA nK E I J) ∧ (k_Set nA nK E I J) ∧ (g_Led nA I)
theorem RR.ks {nA nK : Nat} {E : Nat → Nat} {I : k_I} {J : k_J} (h_ : RR nA nK E I J) : k_S nA nK I := h_.1
theorem RR.ms {nA nK : Nat} {E : Nat → Nat} {I : k_I} {J : k_J} (h_ : RR nA nK E I J) : m_S nA nK E I := h_.2.1
theorem RR.z6 {nA nK : Nat} {E : Nat → Nat} {I : k_I} {J : k_J} (h_ : RR nA nK E I J) : ∀ j, nA ≤ j → I 6 0 j = 0 := h_.2.2.1
theorem RR.z7 {nA nK : Nat} {E : Nat → Nat} {I : k_I} {J : k_J} (h_ : RR nA nK E I J) : ∀ j, nK ≤ j → I 7 0 j = 0 := h_.2.2.2.1
theorem RR.raw {nA nK : Nat} {E : Nat → Nat} {I : k_I} {J : k_J} (h_ : RR nA nK E I J) : k_Raw nA nK E I J := h_.2.2.2.2.1
theorem RR.set {nA nK : Nat} {E : Nat → Nat} {I : k_I} {J : k_J} (h_ : RR nA nK E I J) : k_Set nA nK E I J := h_.2.2.2.2.2.1
theorem RR.led {nA nK : Nat} {E : Nat → Nat} {I : k_I} {J : k_J} (h_ : RR nA nK E I J) : g_Led nA I := h_.2.2.2.2.2.2
