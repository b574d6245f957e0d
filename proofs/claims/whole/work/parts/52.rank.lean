/-! ranks below the count of answers -/
def g_ct (p : Nat → Bool) : Nat → Nat
  | 0 => 0
  | n + 1 => g_ct p n + (if p n then 1 else 0)
theorem g_ct_le (p : Nat → Bool) : ∀ n, g_ct p n ≤ n
  | 0 => Nat.le_refl 0
  | n + 1 => by
    have := g_ct_le p n
    unfold g_ct
    split <;> omega
theorem g_ct_sub {p q : Nat → Bool} : ∀ {n : Nat}, (∀ k, k < n → p k = true → q k = true) → g_ct p n ≤ g_ct q n
  | 0, _ => Nat.le_refl 0
  | n + 1, h => by
    have h1 := g_ct_sub (n := n) (fun k hk => h k (by omega))
    have h2 := h n (by omega)
    unfold g_ct
    cases hp : p n <;> cases hq : q n <;> simp_all <;> omega
theorem g_ct_lt {p q : Nat → Bool} {e : Nat} : ∀ {n : Nat}, (∀ k, k < n → p k = true → q k = true) → e < n → p e = false → q e = true → g_ct p n < g_ct q n
  | 0, _, he, _, _ => absurd he (Nat.not_lt_zero _)
  | n + 1, h, he, h3, h4 => by
    unfold g_ct
    by_cases hn : e = n
    · subst hn
      have h1 := g_ct_sub (n := e) (fun k hk => h k (by omega))
      simp [h3, h4]
      omega
    · have h1 := g_ct_lt (n := n) (fun k hk => h k (by omega)) (by omega) h3 h4
      have h2 := h n (by omega)
      cases hp : p n <;> cases hq : q n <;> simp_all <;> omega
theorem g_R_small {nA : Nat} {E : Nat → Nat} {P : Nat → Int32} {r : Nat → Nat} (h : g_R nA E P r) (hE : ∀ x e, x < nA → g_E E P x e → e < nA) : ∃ r2, g_R nA E P r2 ∧ ∀ x, x < nA → r2 x < nA := by
  refine ⟨fun x => g_ct (fun y => decide (r y < r x)) nA, fun x e hx he => ?_, fun x hx => ?_⟩
  · have h1 := h x e hx he
    refine g_ct_lt (e := e) (fun k _ hk => ?_) (hE x e hx he) ?_ ?_
    · simp only [decide_eq_true_eq] at hk ⊢; omega
    · simp
    · simp [h1]
  · have h1 := g_ct_lt (n := nA) (e := x) (p := fun y => decide (r y < r x)) (q := fun _ => true) (fun _ _ _ => rfl) hx (by simp) rfl
    exact Nat.lt_of_lt_of_le h1 (g_ct_le _ _)
theorem g_E_lt {nA nK : Nat} {E : Nat → Nat} {I : k_I} (h : m_S nA nK E I) {x e : Nat} (hx : x < nA) (he : g_E E (I 35 0) x e) : e < nA := by
  obtain ⟨k, hk, hn, rfl⟩ := he
  exact h.eb (h.part (by omega) hn)
theorem g_U_lt {nA nK : Nat} {E : Nat → Nat} {I : k_I} (h : m_S nA nK E I) {x y : Nat} (hx : x < nA) (hu : g_U E (I 35 0) x y) : y < nA :=
  g_U.ind (M := fun x y => x < nA → y < nA) (fun _ _ he hx => g_E_lt h hx he) (fun _ _ _ he _ ih hx => ih (g_E_lt h hx he)) hu hx
theorem g_T_lt {nA nK : Nat} {E : Nat → Nat} {I : k_I} (h : m_S nA nK E I) {x p : Nat} {K : Nat → Int32} (hx : x < nA) (ht : g_T E (I 35 0) K x p) : p < nA := by
  rcases ht.2 with h1 | h1
  · rw [h1]; exact hx
  · exact g_U_lt h hx h1
theorem g_U_R {nA nK : Nat} {E : Nat → Nat} {I : k_I} {r : Nat → Nat} (h : m_S nA nK E I) (hr : g_R nA E (I 35 0) r) {x y : Nat} (hx : x < nA) (hu : g_U E (I 35 0) x y) : r y < r x :=
  g_U.ind (M := fun x y => x < nA → r y < r x) (fun x e he hx => hr x e hx he) (fun x e _ he _ ih hx => Nat.lt_trans (ih (g_E_lt h hx he)) (hr x e hx he)) hu hx
theorem g_U_trans {E : Nat → Nat} {P : Nat → Int32} {x y z : Nat} (h1 : g_U E P x y) (h2 : g_U E P y z) : g_U E P x z :=
  g_U.ind (M := fun x y => g_U E P y z → g_U E P x z) (fun _ _ h h2 => .more h h2) (fun _ _ _ h _ ih h2 => .more h (ih h2)) h1 h2
/-! leads: one that isn't moved is its own end -/
theorem mPath_e {f : Nat → Int32} : ∀ {d a e : Nat}, mPath f d a e → f e < 0
  | 0, _, _, h => h.1 ▸ h.2.2
  | _ + 1, _, _, h => mPath_e h.2.2.choose_spec.2.2
theorem m_S.self {mA mK : Nat} {E : Nat → Nat} {I : k_I} (h : m_S mA mK E I) {a : Nat} (ha : a < mA) : I 28 0 a < 0 ↔ E a = a := by
  obtain ⟨-, d, hp⟩ := h.2.2.2.2.1 a ha
  constructor
  · intro hn
    cases d with
    | zero => exact hp.1.symm
    | succ d => exact absurd hn hp.2.1
  · intro he
    have := mPath_e hp
    rw [he] at this
    exact this
theorem m_S.EE {mA mK : Nat} {E : Nat → Nat} {I : k_I} (h : m_S mA mK E I) {a : Nat} (ha : a < mA) : E (E a) = E a := by
  obtain ⟨h1, d, hp⟩ := h.2.2.2.2.1 a ha
  exact (h.self h1).mp (mPath_e hp)
/-- a lead is laid from d to j -/
def g_E2 (E : Nat → Nat) (d t : Nat) : Nat → Nat := fun x => if E x = d then t else E x
theorem mPath_old {f : Nat → Int32} {i : Nat} {x : Int32} (hi : f i < 0) : ∀ {d a e : Nat}, mPath f d a e → e ≠ i → mPath (upd f i x) d a e
  | 0, a, e, h, he => by
    obtain ⟨h1, h2, h3⟩ := h
    subst h1
    exact ⟨rfl, h2, by rw [upd_n he]; exact h3⟩
  | d + 1, a, e, h, he => by
    obtain ⟨h1, h2, b, h3, h4, h5⟩ := h
    have ha : a ≠ i := fun q => h2 (by rw [q]; exact hi)
    exact ⟨h1, by rw [upd_n ha]; exact h2, b, by rw [upd_n ha]; exact h3, h4, mPath_old hi h5 he⟩
theorem mPath_new {f : Nat → Int32} {i j : Nat} (hi : f i < 0) (hj : j < 24) (hi2 : i < 24) {dj e : Nat} (hpj : mPath (upd f i (nI j)) dj j e) : ∀ {d a : Nat}, mPath f d a i → ∃ d', mPath (upd f i (nI j)) d' a e
  | 0, a, h => by
    obtain ⟨h1, h2, h3⟩ := h
    subst h1
    exact ⟨dj + 1, h2, by rw [upd_s]; exact nI_pos (by omega), j, upd_s, hj, hpj⟩
  | d + 1, a, h => by
    obtain ⟨h1, h2, b, h3, h4, h5⟩ := h
    have ha : a ≠ i := fun q => h2 (by rw [q]; exact hi)
    obtain ⟨d', h6⟩ := mPath_new hi hj hi2 hpj h5
    exact ⟨d' + 1, h1, by rw [upd_n ha]; exact h2, b, by rw [upd_n ha]; exact h3, h4, h6⟩
theorem m_S.lead {nA nK : Nat} {E : Nat → Nat} {I : k_I} (h : m_S nA nK E I) {i j : Nat} (hi : i < nA) (hj : j < nA) (hE : E i = i) (hne : E j ≠ i) : m_S nA nK (g_E2 E i (E j)) (mw 28 i (nI j) I) := by
  obtain ⟨h1, h2, h3, h4, h5, h6⟩ := h
  have hs : I 28 0 i < 0 := (m_S.self ⟨h1, h2, h3, h4, h5, h6⟩ hi).mpr hE
  obtain ⟨hej, dj, hpj⟩ := h5 j hj
  refine ⟨h1, h2, h3, h4, fun a ha => ?_, h6⟩
  obtain ⟨hea, d, hp⟩ := h5 a ha
  have hl : mw 28 i (nI j) I 28 0 = upd (I 28 0) i (nI j) := k_up_s
  rw [hl]
  unfold g_E2
  by_cases hc : E a = i
  · rw [if_pos hc]
    rw [hc] at hp
    exact ⟨hej, mPath_new hs (by omega) (by omega) (mPath_old hs hpj hne) hp⟩
  · rw [if_neg hc]
    exact ⟨hea, d, mPath_old hs hp hc⟩
theorem g_E2_E {E : Nat → Nat} {P : Nat → Int32} {d t x e : Nat} (h : g_E (g_E2 E d t) P x e) : ∃ e0, g_E E P x e0 ∧ e = if e0 = d then t else e0 := by
  obtain ⟨k, hk, hn, rfl⟩ := h
  exact ⟨_, ⟨k, hk, hn, rfl⟩, rfl⟩
/-- the rank of a graph where the edges to d go to t from now on -/
theorem g_R_lead {nA nK : Nat} {E : Nat → Nat} {I : k_I} {r : Nat → Nat} (h : m_S nA nK E I) (hr : g_R nA E (I 35 0) r) {d t : Nat} (ht : t < nA) (hd : t ≠ d) (hu : ¬ g_U E (I 35 0) t d) : ∃ r2, g_R nA (g_E2 E d t) (I 35 0) r2 := by
  obtain ⟨r, hr, hb⟩ := g_R_small hr (fun x e hx he => g_E_lt h hx he)
  classical
  refine ⟨fun x => if x = t ∨ g_U E (I 35 0) t x then r x else r x + nA, fun x e hx he => ?_⟩
  obtain ⟨e0, he0, hee⟩ := g_E2_E he
  have h0 := hr x e0 hx he0
  have he0l := g_E_lt h hx he0
  by_cases hc : e0 = d
  · rw [if_pos hc] at hee
    subst hee
    have hnx : ¬ (x = e ∨ g_U E (I 35 0) e x) := by
      rintro (h1 | h1)
      · subst h1; exact hu (.one (hc ▸ he0))
      · exact hu (g_U_trans h1 (.one (hc ▸ he0)))
    simp only [true_or, if_true, if_neg hnx]
    have := hb e ht
    omega
  · rw [if_neg hc] at hee
    subst hee
    by_cases hx2 : x = t ∨ g_U E (I 35 0) t x
    · have he2 : e = t ∨ g_U E (I 35 0) t e := by
        rcases hx2 with h1 | h1
        · subst h1; exact Or.inr (.one he0)
        · exact Or.inr (g_U_trans h1 (.one he0))
      simp only [if_pos hx2, if_pos he2]
      exact h0
    · simp only [if_neg hx2]
      have := hb e he0l
      split <;> omega
