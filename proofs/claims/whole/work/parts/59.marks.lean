/-! the reference's marks: what is under f, and f -/
theorem g_U_last {E : Nat → Nat} {P : Nat → Int32} {x y : Nat} (h : g_U E P x y) : g_E E P x y ∨ ∃ z, g_U E P x z ∧ g_E E P z y :=
  g_U.ind (M := fun x y => g_E E P x y ∨ ∃ z, g_U E P x z ∧ g_E E P z y) (fun _ _ h => Or.inl h) (fun x e y h _ ih => by
    rcases ih with ih | ⟨z, h1, h2⟩
    · exact Or.inr ⟨e, .one h, ih⟩
    · exact Or.inr ⟨z, .more h h1, h2⟩) h
def g_In (nA : Nat) (E : Nat → Nat) (P : Nat → Int32) (f : Nat) (I : k_I) : Prop := ∀ x, x < nA → ¬ I 39 0 x = 0 → x = f ∨ g_U E P f x
theorem mHPL_v {nA nK f : Nat} {E : Nat → Nat} {I0 : k_I} (ms : m_S nA nK E I0) (h : k_MR nA E I0) {j : Nat} (hj : j < nA) : ∀ (d k : Nat) (I : k_I), k + d = 4 → I 27 = I0 27 → I 35 = I0 35 → (∀ x, ¬ I 39 0 x = 0 → ¬ mHPL E j d k I 39 0 x = 0) ∧ (g_In nA E (I0 35 0) f I → g_In nA E (I0 35 0) f (mHPL E j d k I)) ∧ (¬ I 39 0 j = 0 → ∀ m, k ≤ m → m < 4 → ¬ I0 35 0 (4 * j + m) < 0 → ¬ mHPL E j d k I 39 0 (mE E (I0 35 0 (4 * j + m))) = 0)
  | 0, k, I, hd, _, _ => ⟨fun _ h => h, fun h => h, fun _ m h1 h2 => absurd h2 (by omega)⟩
  | d + 1, k, I, hd, h27, h35 => by
    unfold mHPL
    by_cases h39 : I 39 0 j = 0
    · rw [if_pos h39]
      exact ⟨fun _ h => h, fun h => h, fun hn => absurd h39 hn⟩
    · rw [if_neg h39, h27, h35]
      by_cases hk1 : I0 27 0 j = 1
      · rw [if_pos hk1]
        by_cases hp : I0 35 0 (4 * j + k) < 0
        · rw [if_pos hp]
          obtain ⟨a, b, c⟩ := mHPL_v (f := f) ms h hj d (k + 1) I (by omega) h27 h35
          refine ⟨a, b, fun hn m h1 h2 h3 => c hn m ?_ h2 h3⟩
          rcases Nat.lt_or_ge k m with q | q
          · omega
          · exact absurd (by rw [show m = k by omega]; exact hp) h3
        · rw [if_neg hp]
          have he : g_E E (I0 35 0) j (mE E (I0 35 0 (4 * j + k))) := ⟨k, by omega, hp, rfl⟩
          generalize heq : mE E (I0 35 0 (4 * j + k)) = e at he
          have e39 : mw 39 e 1 I 39 0 = upd (I 39 0) e 1 := mw_s
          have m1 : ∀ x, ¬ I 39 0 x = 0 → ¬ mw 39 e 1 I 39 0 x = 0 := fun x hx => by
            rw [e39]
            by_cases hxe : x = e
            · subst hxe; rw [upd_s]; decide
            · rw [upd_n hxe]; exact hx
          obtain ⟨a, b, c⟩ := mHPL_v (f := f) ms h hj d (k + 1) (mw 39 e 1 I) (by omega) (by rw [mw_C (by decide)]; exact h27) (by rw [mw_C (by decide)]; exact h35)
          refine ⟨fun x hx => a x (m1 x hx), fun hs => b fun x hx hm => ?_, fun hn m h1 h2 h3 => ?_⟩
          · rw [e39] at hm
            by_cases hxe : x = e
            · subst hxe
              rcases hs j hj h39 with q | q
              · exact Or.inr (.one (q ▸ he))
              · exact Or.inr (g_U_trans q (.one he))
            · rw [upd_n hxe] at hm
              exact hs x hx hm
          · rcases Nat.lt_or_ge k m with q | q
            · exact c (m1 j hn) m (by omega) h2 h3
            · rw [show m = k by omega, heq]
              refine a e ?_
              rw [e39, upd_s]; decide
      · rw [if_neg hk1]
        have hk0 := (h.kd j hj).resolve_right hk1
        exact ⟨fun _ h => h, fun h => h, fun _ m _ h2 h3 => absurd (h.nop j hj hk0 m h2) h3⟩
theorem mHPR_v {nA nK f : Nat} {E : Nat → Nat} {I0 : k_I} (ms : m_S nA nK E I0) (h : k_MR nA E I0) {I : k_I} (h27 : I 27 = I0 27) (h35 : I 35 = I0 35) : (∀ x, ¬ I 39 0 x = 0 → ¬ mHPR E nA I 39 0 x = 0) ∧ (g_In nA E (I0 35 0) f I → g_In nA E (I0 35 0) f (mHPR E nA I)) ∧ ∀ j, j < nA → ¬ I 39 0 j = 0 → ∀ e, g_E E (I0 35 0) j e → ¬ mHPR E nA I 39 0 e = 0 := by
  have key := kLoop_i0 (step := fun j I => mHPL E j 4 0 I) (fun n r => r 27 = I 27 ∧ r 35 = I 35 ∧ (∀ x, ¬ I 39 0 x = 0 → ¬ r 39 0 x = 0) ∧ (g_In nA E (I0 35 0) f I → g_In nA E (I0 35 0) f r) ∧ ∀ j, j < n → ¬ I 39 0 j = 0 → ∀ e, g_E E (I0 35 0) j e → ¬ r 39 0 e = 0) nA I ⟨rfl, rfl, fun _ h => h, fun h => h, fun j hj => absurd hj (Nat.not_lt_zero _)⟩ (by
    rintro n r hn ⟨h1, h2, h3, h4, h5⟩
    obtain ⟨a, b, c⟩ := mHPL_v (f := f) ms h hn 4 0 r rfl (h1.trans h27) (h2.trans h35)
    refine ⟨(mHPL_C (by decide) _ _ _).trans h1, (mHPL_C (by decide) _ _ _).trans h2, fun x hx => a x (h3 x hx), fun hs => b (h4 hs), fun j hj hm e he => ?_⟩
    by_cases hjn : j = n
    · subst hjn
      obtain ⟨k, hk, hp, rfl⟩ := he
      exact c (h3 j hm) k (Nat.zero_le _) hk hp
    · exact a e (h5 j (by omega) hm e he))
  exact key.2.2
theorem mHP0_v {mA f : Nat} {I : k_I} (hm : mA ≤ 24) (hf : f < mA) : ∀ x, x < mA → (¬ mHP0 mA f I 39 0 x = 0 ↔ x = f) := by
  have key := kLoop_i0 (step := fun k I => mw 39 k (if nI k = nI f then 1 else 0) I) (fun n r => ∀ x, x < n → (¬ r 39 0 x = 0 ↔ x = f)) mA I (fun x hx => absurd hx (Nat.not_lt_zero _)) (by
    intro n r hn h x hx
    show ¬ mw 39 n (if nI n = nI f then 1 else 0) r 39 0 x = 0 ↔ _
    rw [mw_s]
    by_cases hxn : x = n
    · subst hxn
      rw [upd_s]
      by_cases hc : x = f
      · subst hc; rw [if_pos rfl]; exact ⟨fun _ => rfl, fun _ => by decide⟩
      · rw [if_neg (fun q => hc ((nI_eq (by omega) (by omega)).mp q))]
        exact ⟨fun h => absurd rfl h, fun h => absurd h hc⟩
    · rw [upd_n hxn]; exact h x (by omega))
  exact key
theorem mHP_v {nA nK f : Nat} {E : Nat → Nat} {I : k_I} (ms : m_S nA nK E I) (h : k_MR nA E I) (hf : f < nA) {i : Nat} (hi : i < nA) : ¬ mHP E nA f I 39 0 i = 0 ↔ i = f ∨ g_U E (I 35 0) f i := by
  have h24 := ms.2.2.1
  obtain ⟨r0, hr0⟩ := h.rank
  obtain ⟨r, hr, hb⟩ := g_R_small hr0 (fun x e hx he => g_E_lt ms hx he)
  have z := mHP0_v (I := I) h24 hf
  have c27 : mHP0 nA f I 27 = I 27 := mHP0_C (by decide)
  have c35 : mHP0 nA f I 35 = I 35 := mHP0_C (by decide)
  have key := kLoop_i0 (step := fun _ I => mHPR E nA I) (fun n s => s 27 = I 27 ∧ s 35 = I 35 ∧ g_In nA E (I 35 0) f s ∧ (¬ s 39 0 f = 0) ∧ ∀ y, g_U E (I 35 0) f y → nA ≤ r y + n → ¬ s 39 0 y = 0) nA (mHP0 nA f I) ⟨c27, c35, fun x hx hm => Or.inl ((z x hx).mp hm), (z f hf).mpr rfl, fun y hu hn => absurd (hb y (g_U_lt ms hf hu)) (by omega)⟩ (by
    rintro n s hn ⟨h1, h2, h3, h4, h5⟩
    obtain ⟨a, b, c⟩ := mHPR_v (f := f) ms h h1 h2
    refine ⟨(mHPR_C (by decide)).trans h1, (mHPR_C (by decide)).trans h2, b h3, a f h4, fun y hu hy => ?_⟩
    rcases g_U_last hu with he | ⟨x, hx, he⟩
    · exact c f hf h4 y he
    · have hxl := g_U_lt ms hf hx
      have := hr x y hxl he
      exact c x hxl (h5 x hx (by omega)) y he)
  show ¬ kLoop (fun _ I => mHPR E nA I) nA 0 (mHP0 nA f I) 39 0 i = 0 ↔ _
  constructor
  · exact key.2.2.1 i hi
  · rintro (rfl | hu)
    · exact key.2.2.2.1
    · exact key.2.2.2.2 i hu (by omega)
