/-! settle, first and second part: plain ones; what is under each -/
theorem kChg_of {I I' : k_I} (h : I' 5 = I 5) (x t : Int32) : kChg I' x t = kChg I x t := by unfold kChg; rw [h]
theorem kSt1_f (nA : Nat) (s : k_IJ) : (∀ c, c ≠ 8 → (kSt1 nA s).1 c = s.1 c) ∧ (∀ i k, k ≠ 11 → (kSt1 nA s).1 8 i k = s.1 8 i k) ∧ (∀ c, c ≠ 8 → (kSt1 nA s).2 c = s.2 c) ∧ (∀ i k, k ≠ 10 → (kSt1 nA s).2 8 i k = s.2 8 i k) ∧ ∀ i, i < nA → s.1 8 i 1 = 0 → (kSt1 nA s).1 8 i 11 = k_b (kChg s.1 (s.1 8 i 6) (s.1 8 i 7)) ∧ (kSt1 nA s).2 8 i 10 = kFold (s.1 2 0) (s.2 8 i 5) := by
  refine kLoop_i0 (step := kSP) (fun n r => (∀ c, c ≠ 8 → r.1 c = s.1 c) ∧ (∀ i k, k ≠ 11 → r.1 8 i k = s.1 8 i k) ∧ (∀ c, c ≠ 8 → r.2 c = s.2 c) ∧ (∀ i k, k ≠ 10 → r.2 8 i k = s.2 8 i k) ∧ ∀ i, i < n → s.1 8 i 1 = 0 → r.1 8 i 11 = k_b (kChg s.1 (s.1 8 i 6) (s.1 8 i 7)) ∧ r.2 8 i 10 = kFold (s.1 2 0) (s.2 8 i 5)) nA s ⟨fun _ _ => rfl, fun _ _ _ => rfl, fun _ _ => rfl, fun _ _ _ => rfl, fun i hi => absurd hi (Nat.not_lt_zero _)⟩ ?_
  rintro j ⟨I, J⟩ hj ⟨h1, h2, h3, h4, h5⟩
  simp only at h1 h2 h3 h4 h5
  unfold kSP
  simp only
  have e1 := h2 j 1 (by decide)
  by_cases hk : s.1 8 j 1 = 0
  · rw [e1, if_pos hk]
    refine ⟨fun c hc => (k_up_C hc).trans (h1 c hc), fun i k hk2 => ?_, fun c hc => (k_up_C hc).trans (h3 c hc), fun i k hk2 => ?_, fun i hi hp => ?_⟩
    · by_cases hij : i = j
      · subst hij; simp only [k_up_s]; rw [upd_n hk2]; exact h2 i k hk2
      · simp only [k_up_i hij]; exact h2 i k hk2
    · by_cases hij : i = j
      · subst hij; simp only [k_up_s]; rw [updL_n hk2]; exact h4 i k hk2
      · simp only [k_up_i hij]; exact h4 i k hk2
    · by_cases hij : i = j
      · subst hij
        simp only [k_up_s, upd_s, updL_s]
        rw [h2 i 6 (by decide), h2 i 7 (by decide), h4 i 5 (by decide), h1 2 (by decide), kChg_of (h1 5 (by decide))]
        exact ⟨rfl, rfl⟩
      · simp only [k_up_i hij]
        exact h5 i (by omega) hp
  · rw [e1, if_neg hk]
    refine ⟨h1, h2, h3, h4, fun i hi hp => ?_⟩
    by_cases hij : i = j
    · subst hij; exact absurd hp hk
    · exact h5 i (by omega) hp
/-! what is under each -/
def k_FU (I I' : k_I) : Prop := (∀ c, c ≠ 8 → I' c = I c) ∧ ∀ i k, k ≠ 12 → I' 8 i k = I 8 i k
theorem k_FU.rf (I : k_I) : k_FU I I := ⟨fun _ _ => rfl, fun _ _ _ => rfl⟩
theorem k_FU.tr {I I' I'' : k_I} (h : k_FU I I') (h2 : k_FU I' I'') : k_FU I I'' := ⟨fun c hc => (h2.1 c hc).trans (h.1 c hc), fun i k hk => (h2.2 i k hk).trans (h.2 i k hk)⟩
abbrev k_UH (nA : Nat) (E : Nat → Nat) (P : Nat → Int32) (I : k_I) : Prop := (nA ≤ 24) ∧ (∀ i, i < nA → I 8 i 0 = nI i) ∧ (∀ i, i < nA → I 8 i 9 = nI (E i)) ∧ (∀ i, i < nA → ∀ k, k < 4 → I 10 i k = P (4 * i + k)) ∧ (∀ i, i < nA → ∀ k, k < 4 → P (4 * i + k) < 0 → P (4 * i + k) = -1) ∧ (∀ i, i < nA → ∀ k, k < 4 → ¬ P (4 * i + k) < 0 → ∃ p, p < nA ∧ P (4 * i + k) = nI p) ∧ (∀ p, p < nA → E p < nA)
theorem k_UH.n24 {nA : Nat} {E : Nat → Nat} {P : Nat → Int32} {I : k_I} (h_ : k_UH nA E P I) : nA ≤ 24 := h_.1
theorem k_UH.num {nA : Nat} {E : Nat → Nat} {P : Nat → Int32} {I : k_I} (h_ : k_UH nA E P I) : ∀ i, i < nA → I 8 i 0 = nI i := h_.2.1
theorem k_UH.ends {nA : Nat} {E : Nat → Nat} {P : Nat → Int32} {I : k_I} (h_ : k_UH nA E P I) : ∀ i, i < nA → I 8 i 9 = nI (E i) := h_.2.2.1
theorem k_UH.parts {nA : Nat} {E : Nat → Nat} {P : Nat → Int32} {I : k_I} (h_ : k_UH nA E P I) : ∀ i, i < nA → ∀ k, k < 4 → I 10 i k = P (4 * i + k) := h_.2.2.2.1
theorem k_UH.neg {nA : Nat} {E : Nat → Nat} {P : Nat → Int32} {I : k_I} (h_ : k_UH nA E P I) : ∀ i, i < nA → ∀ k, k < 4 → P (4 * i + k) < 0 → P (4 * i + k) = -1 := h_.2.2.2.2.1
theorem k_UH.pos {nA : Nat} {E : Nat → Nat} {P : Nat → Int32} {I : k_I} (h_ : k_UH nA E P I) : ∀ i, i < nA → ∀ k, k < 4 → ¬ P (4 * i + k) < 0 → ∃ p, p < nA ∧ P (4 * i + k) = nI p := h_.2.2.2.2.2.1
theorem k_UH.el {nA : Nat} {E : Nat → Nat} {P : Nat → Int32} {I : k_I} (h_ : k_UH nA E P I) : ∀ p, p < nA → E p < nA := h_.2.2.2.2.2.2
theorem k_UH.to {nA : Nat} {E : Nat → Nat} {P : Nat → Int32} {I I' : k_I} (h : k_UH nA E P I) (hf : k_FU I I') : k_UH nA E P I' :=
  ⟨h.n24, fun i hi => (hf.2 i 0 (by decide)).trans (h.num i hi), fun i hi => (hf.2 i 9 (by decide)).trans (h.ends i hi), fun i hi k hk => by rw [hf.1 10 (by decide)]; exact h.parts i hi k hk, h.neg, h.pos, h.el⟩
theorem kAns_nI {n a : Nat} (h : a < n) (hn : n < 2 ^ 31) : kAns n (nI a) = some a := kAns_lt h hn
theorem k_UH.e {nA : Nat} {E : Nat → Nat} {P : Nat → Int32} {I : k_I} (h : k_UH nA E P I) {x k : Nat} (hx : x < nA) (hk : k < 4) : kEnd nA I (kPart I x (nI k)) = if P (4 * x + k) < 0 then none else some (mE E (P (4 * x + k))) := by
  have h24 := h.n24
  have hp : kPart I x (nI k) = P (4 * x + k) := by
    unfold kPart
    rw [if_neg (nI_pos (by omega)), if_neg (show ¬ (4 : Int32) ≤ nI k from nI_ge (a := k) (b := 4) hk (by decide)), nI_clamp (by omega)]
    exact h.parts x hx k hk
  rw [hp]
  by_cases hn : P (4 * x + k) < 0
  · rw [if_pos hn, h.neg x hx k hk hn]
    rfl
  · rw [if_neg hn]
    obtain ⟨p, hpl, e⟩ := h.pos x hx k hk hn
    rw [e, mE_n (by omega)]
    unfold kEnd
    rw [kAns_nI hpl (by omega)]
    simp only
    rw [h.ends p hpl, kAns_nI (h.el p hpl) (by omega)]
theorem k_UH.el2 {nA : Nat} {E : Nat → Nat} {P : Nat → Int32} {I : k_I} (h : k_UH nA E P I) {x k : Nat} (hx : x < nA) (hk : k < 4) (hn : ¬ P (4 * x + k) < 0) : mE E (P (4 * x + k)) < nA := by
  have h24 := h.n24
  obtain ⟨p, hpl, e⟩ := h.pos x hx k hk hn
  rw [e, mE_n (by omega)]
  exact h.el p hpl
def k_MU (nA : Nat) (I I' : k_I) : Prop := ∀ i j, j < nA → bt (I 8 i 12) j = true → bt (I' 8 i 12) j = true
def k_SU (nA : Nat) (E : Nat → Nat) (P : Nat → Int32) (I : k_I) : Prop := ∀ i j, i < nA → j < nA → bt (I 8 i 12) j = true → g_U E P i j
theorem kW1_p {nA : Nat} {E : Nat → Nat} {P : Nat → Int32} {I : k_I} (h : k_UH nA E P I) {x k : Nat} (hx : x < nA) (hk : k < 4) : k_FU I (kW1 nA x k I) ∧ k_MU nA I (kW1 nA x k I) ∧ (k_SU nA E P I → k_SU nA E P (kW1 nA x k I)) ∧ (¬ P (4 * x + k) < 0 → ∀ j, j < nA → (j = mE E (P (4 * x + k)) ∨ bt (I 8 (mE E (P (4 * x + k))) 12) j = true) → bt (kW1 nA x k I 8 x 12) j = true) := by
  have h24 := h.n24
  unfold kW1
  rw [h.e hx hk]
  by_cases hn : P (4 * x + k) < 0
  · rw [if_pos hn]
    exact ⟨k_FU.rf I, fun _ _ _ h => h, fun h => h, fun h => absurd hn h⟩
  · rw [if_neg hn]
    simp only
    have hel := h.el2 hx hk hn
    generalize he : mE E (P (4 * x + k)) = e at hel ⊢
    rw [h.num e hel]
    refine ⟨⟨fun c hc => k_up_C hc, fun i m hm => ?_⟩, fun i j hj hb => ?_, fun hs i j hi hj hb => ?_, fun _ j hj hb => ?_⟩
    · by_cases hi : i = x
      · subst hi; rw [k_up_s, upd_n hm]
      · rw [k_up_i hi]
    · by_cases hi : i = x
      · subst hi; rw [k_up_s, upd_s, b_or, hb]; rfl
      · rw [k_up_i hi]; exact hb
    · by_cases hix : i = x
      · subst hix
        rw [k_up_s, upd_s, b_or, b_or, b_bit (by omega) (by omega)] at hb
        have hee : g_E E P i e := ⟨k, hk, hn, he.symm⟩
        simp only [Bool.or_eq_true, decide_eq_true_eq] at hb
        rcases hb with hb | hb | hb
        · exact hs i j hi hj hb
        · rw [hb]; exact .one hee
        · exact .more hee (hs e j hel hj hb)
      · rw [k_up_i hix] at hb
        exact hs i j hi hj hb
    · rw [k_up_s, upd_s, b_or, b_or, b_bit (by omega) (by omega)]
      simp only [Bool.or_eq_true, decide_eq_true_eq]
      rcases hb with hb | hb
      · exact Or.inr (Or.inl hb)
      · exact Or.inr (Or.inr hb)
theorem kWiden_p {nA : Nat} {E : Nat → Nat} {P : Nat → Int32} {I : k_I} (h : k_UH nA E P I) {x : Nat} (hx : x < nA) : k_FU I (kWiden nA x I) ∧ k_MU nA I (kWiden nA x I) ∧ (k_SU nA E P I → k_SU nA E P (kWiden nA x I)) ∧ (∀ e, g_E E P x e → ∀ j, j < nA → (j = e ∨ bt (I 8 e 12) j = true) → bt (kWiden nA x I 8 x 12) j = true) := by
  have key := kLoop_i0 (step := kW1 nA x) (fun n I' => k_FU I I' ∧ k_MU nA I I' ∧ (k_SU nA E P I → k_SU nA E P I') ∧ (∀ k, k < n → ¬ P (4 * x + k) < 0 → ∀ j, j < nA → (j = mE E (P (4 * x + k)) ∨ bt (I 8 (mE E (P (4 * x + k))) 12) j = true) → bt (I' 8 x 12) j = true)) 4 I ⟨k_FU.rf I, fun _ _ _ h => h, fun h => h, fun k hk => absurd hk (Nat.not_lt_zero _)⟩ (by
    rintro k I' hk ⟨h1, h2, h3, h4⟩
    obtain ⟨g1, g2, g3, g4⟩ := kW1_p (h.to h1) hx hk
    refine ⟨h1.tr g1, fun i j hj hb => g2 i j hj (h2 i j hj hb), fun hs => g3 (h3 hs), fun k' hk' hn j hj hb => ?_⟩
    by_cases hkk : k' = k
    · subst hkk
      refine g4 hn j hj ?_
      rcases hb with hb | hb
      · exact Or.inl hb
      · exact Or.inr (h2 _ j hj hb)
    · exact g2 x j hj (h4 k' (by omega) hn j hj hb))
  refine ⟨key.1, key.2.1, key.2.2.1, ?_⟩
  rintro e ⟨k, hk, hn, rfl⟩ j hj hb
  exact key.2.2.2 k hk hn j hj hb
theorem kUndR_p {nA : Nat} {E : Nat → Nat} {P : Nat → Int32} {I : k_I} (h : k_UH nA E P I) : k_FU I (kUndR nA I) ∧ k_MU nA I (kUndR nA I) ∧ (k_SU nA E P I → k_SU nA E P (kUndR nA I)) ∧ (∀ x, x < nA → ∀ e, g_E E P x e → ∀ j, j < nA → (j = e ∨ bt (I 8 e 12) j = true) → bt (kUndR nA I 8 x 12) j = true) := by
  refine kLoop_i0 (step := fun a I => kWiden nA a I) (fun n I' => k_FU I I' ∧ k_MU nA I I' ∧ (k_SU nA E P I → k_SU nA E P I') ∧ (∀ x, x < n → ∀ e, g_E E P x e → ∀ j, j < nA → (j = e ∨ bt (I 8 e 12) j = true) → bt (I' 8 x 12) j = true)) nA I ⟨k_FU.rf I, fun _ _ _ h => h, fun h => h, fun k hk => absurd hk (Nat.not_lt_zero _)⟩ ?_
  rintro x I' hx ⟨h1, h2, h3, h4⟩
  obtain ⟨g1, g2, g3, g4⟩ := kWiden_p (h.to h1) hx
  refine ⟨h1.tr g1, fun i j hj hb => g2 i j hj (h2 i j hj hb), fun hs => g3 (h3 hs), fun x' hx' e he j hj hb => ?_⟩
  by_cases hxx : x' = x
  · subst hxx
    refine g4 e he j hj ?_
    rcases hb with hb | hb
    · exact Or.inl hb
    · exact Or.inr (h2 _ j hj hb)
  · exact g2 x' j hj (h4 x' (by omega) e he j hj hb)
theorem kUnd0_p (nA : Nat) (I : k_I) : k_FU I (kUnd0 nA I) ∧ ∀ i, i < nA → kUnd0 nA I 8 i 12 = 0 := by
  refine kLoop_i0 (step := fun a I => k_up I 8 a (upd (I 8 a) 12 0)) (fun n I' => k_FU I I' ∧ ∀ i, i < n → I' 8 i 12 = 0) nA I ⟨k_FU.rf I, fun k hk => absurd hk (Nat.not_lt_zero _)⟩ ?_
  rintro x I' hx ⟨h1, h2⟩
  refine ⟨h1.tr ⟨fun c hc => k_up_C hc, fun i m hm => ?_⟩, fun i hi => ?_⟩
  · by_cases hix : i = x
    · subst hix; rw [k_up_s, upd_n hm]
    · rw [k_up_i hix]
  · by_cases hix : i = x
    · subst hix; rw [k_up_s, upd_s]
    · rw [k_up_i hix]; exact h2 i (by omega)
theorem kUnd_p {nA : Nat} {E : Nat → Nat} {P : Nat → Int32} {I : k_I} (h : k_UH nA E P I) {r : Nat → Nat} (hr : g_R nA E P r) : k_FU I (kUnd nA I) ∧ ∀ i j, i < nA → j < nA → (bt (kUnd nA I 8 i 12) j = true ↔ g_U E P i j) := by
  have hE : ∀ x e, x < nA → g_E E P x e → e < nA := by
    rintro x e hx ⟨k, hk, hn, rfl⟩
    exact h.el2 hx hk hn
  obtain ⟨r, hr, hb⟩ := g_R_small hr hE
  obtain ⟨f0, z0⟩ := kUnd0_p nA I
  have key := kLoop_i0 (step := fun _ I => kUndR nA I) (fun n I' => k_FU I I' ∧ k_SU nA E P I' ∧ ∀ x, x < nA → r x < n → ∀ j, j < nA → g_U E P x j → bt (I' 8 x 12) j = true) 24 (kUnd0 nA I) ⟨f0, fun i j hi hj hb => (by rw [z0 i hi, b_0] at hb; cases hb), fun x _ hx => absurd hx (Nat.not_lt_zero _)⟩ (by
    rintro n I' hn ⟨h1, h2, h3⟩
    obtain ⟨g1, g2, g3, g4⟩ := kUndR_p (h.to h1)
    refine ⟨h1.tr g1, g3 h2, fun x hx hrx j hj hu => ?_⟩
    obtain ⟨e, he, hu⟩ := g_U_iff.mp hu
    refine g4 x hx e he j hj ?_
    rcases hu with hu | hu
    · exact Or.inl hu
    · have := hr x e hx he
      exact Or.inr (h3 e (hE x e hx he) (by omega) j hj hu))
  refine ⟨key.1, fun i j hi hj => ⟨key.2.1 i j hi hj, key.2.2 i hi ?_ j hj⟩⟩
  have := hb i hi
  have := h.n24
  omega
