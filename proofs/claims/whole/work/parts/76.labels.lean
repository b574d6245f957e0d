/-! heaps: the reference's labels -/
def h_V (nA nK : Nat) (I : k_I) (J : k_J) (q : Nat) : Prop := q < nK ∧ kSome nA I J (J 11 q 2) q = false
def h_N (I : k_I) (J : k_J) (a b : Nat) : Prop := ¬ I 13 0 4 < mFar I (J 37 0 a) (J 37 0 b)
theorem mFar_sy (I : k_I) (x y : Int64) : mFar I x y = mFar I y x := by
  unfold mFar
  rw [Int64.xor_comm]
theorem h_N.sy {I : k_I} {J : k_J} (a b : Nat) (h : h_N I J a b) : h_N I J b a := by
  unfold h_N at h ⊢
  rw [mFar_sy]; exact h
theorem k_Wk2.x44 {nA : Nat} {I X : k_I} {J : k_J} {W : k_IJ} (k : k_Wk2 nA I J W) (h : ∀ c, c ≠ 44 → X c = W.1 c) : k_Wk2 nA I J (X, W.2) := by
  refine ⟨fun c hc => (h c (by omega)).trans (k.lo c hc), k.loJ, k.fw, fun i hi m hm => ?_, fun i hi => ?_, fun i hi => ?_⟩
  · show X 41 0 _ = _
    rw [h 41 (by decide)]; exact k.fs i hi m hm
  · show X 42 0 i = _
    rw [h 42 (by decide)]; exact k.ft i hi
  · show X 43 0 i = 0 ↔ _
    rw [h 43 (by decide)]; exact k.fd i hi
theorem mFinds_V {nA nK : Nat} {E : Nat → Nat} {I : k_I} {J : k_J} {W : k_IJ} (h : RR nA nK E I J) (k : k_Wk2 nA I J W) {q : Nat} (hq : q < nK) : mFinds nA W.1 W.2 (W.2 37 0 q) q = 0 ↔ h_V nA nK I J q := by
  unfold h_V
  rw [(mFinds_0 h.ms.2.2.1).1, kSome_q h k hq, k.loJ 37 (by decide)]
  exact ⟨fun z => ⟨hq, z⟩, fun z => z.2⟩
def h_L (nK : Nat) (V : Nat → Prop) (N : Nat → Nat → Prop) (f : Nat → Int32) : Prop := ∀ q, q < nK → (V q → ∃ l, f q = nI l ∧ l ≤ q ∧ V l ∧ h_R V N q l) ∧ (¬ V q → f q = -1)
theorem mHeap0_L {nA nK : Nat} {E : Nat → Nat} {I : k_I} {J : k_J} {W : k_IJ} (h : RR nA nK E I J) (k : k_Wk2 nA I J W) : h_L nK (h_V nA nK I J) (h_N I J) (mHeap0 nA nK W.2 W.1 44 0) := by
  have key := kLoop_i0 (step := fun q I => mw 44 q (if mFinds nA I W.2 (W.2 37 0 q) q = 0 then nI q else -1) I) (fun n X => (∀ c, c ≠ 44 → X c = W.1 c) ∧ ∀ q, q < n → (h_V nA nK I J q → X 44 0 q = nI q) ∧ (¬ h_V nA nK I J q → X 44 0 q = -1)) nK W.1 ⟨fun _ _ => rfl, fun q hq => absurd hq (Nat.not_lt_zero _)⟩ (by
    rintro n X hn ⟨h1, h2⟩
    have e := mFinds_V h (k.x44 h1) hn
    simp only at e
    refine ⟨fun c hc => (mw_C hc).trans (h1 c hc), fun q hq => ?_⟩
    rw [mwx]
    by_cases hqn : q = n
    · subst hqn
      rw [if_pos rfl]
      exact ⟨fun z => if_pos (e.mpr z), fun z => if_neg (fun y => z (e.mp y))⟩
    · rw [if_neg hqn]; exact h2 q (by omega))
  intro q hq
  obtain ⟨a, b⟩ := key.2 q hq
  exact ⟨fun z => ⟨q, a z, Nat.le_refl _, z, h_R.rf _ _ q⟩, b⟩
theorem h_L.H {nK : Nat} {V : Nat → Prop} {N : Nat → Nat → Prop} {X : k_I} (h : h_L nK V N (X 44 0)) : m_H nK X := by
  intro q hq
  by_cases hv : V q
  · obtain ⟨l, e, hl, -, -⟩ := (h q hq).1 hv
    exact Or.inr ⟨l, by omega, e⟩
  · rw [(h q hq).2 hv]; exact Or.inl (by decide)
def h_Ok (J : k_J) (X : k_I) (q p : Nat) : Prop := X 44 0 q < 0 ∨ X 44 0 p < 0 ∨ X 44 0 q ≤ X 44 0 p ∨ X 13 0 4 < mFar X (J 37 0 p) (J 37 0 q)
/-- one step of a sweep: nothing to do, or a label taken over -/
theorem mSw1_v (J : k_J) (q p : Nat) (s : k_IB) : (h_Ok J s.1 q p ∧ mSw1 J q p s = s) ∨ (¬ h_Ok J s.1 q p ∧ mSw1 J q p s = (mw 44 q (s.1 44 0 p) s.1, true)) := by
  unfold mSw1 h_Ok
  by_cases c1 : s.1 44 0 q < 0
  · rw [if_pos c1]; exact Or.inl ⟨Or.inl c1, rfl⟩
  · rw [if_neg c1]
    by_cases c2 : s.1 44 0 p < 0
    · rw [if_pos c2]; exact Or.inl ⟨Or.inr (Or.inl c2), rfl⟩
    · rw [if_neg c2]
      by_cases c3 : s.1 44 0 q ≤ s.1 44 0 p
      · rw [if_pos c3]; exact Or.inl ⟨Or.inr (Or.inr (Or.inl c3)), rfl⟩
      · rw [if_neg c3]
        by_cases c4 : s.1 13 0 4 < mFar s.1 (J 37 0 p) (J 37 0 q)
        · rw [if_pos c4]; exact Or.inl ⟨Or.inr (Or.inr (Or.inr c4)), rfl⟩
        · rw [if_neg c4]
          refine Or.inr ⟨?_, rfl⟩
          rintro (z | z | z | z)
          · exact c1 z
          · exact c2 z
          · exact c3 z
          · exact c4 z
/-- what a sweep keeps -/
abbrev h_Sw (nK : Nat) (I : k_I) (J : k_J) (V : Nat → Prop) (X : k_I) (D : Nat → Nat → Prop) (s : k_IB) : Prop := (∀ c, c ≠ 44 → s.1 c = X c) ∧ (h_L nK V (h_N I J) (s.1 44 0)) ∧ (s.2 = true ∨ (s.1 = X ∧ ∀ q p, D q p → h_Ok J X q p))
theorem h_Sw.lo {nK : Nat} {I : k_I} {J : k_J} {V : Nat → Prop} {X : k_I} {D : Nat → Nat → Prop} {s : k_IB} (h_ : h_Sw nK I J V X D s) : ∀ c, c ≠ 44 → s.1 c = X c := h_.1
theorem h_Sw.lab {nK : Nat} {I : k_I} {J : k_J} {V : Nat → Prop} {X : k_I} {D : Nat → Nat → Prop} {s : k_IB} (h_ : h_Sw nK I J V X D s) : h_L nK V (h_N I J) (s.1 44 0) := h_.2.1
theorem h_Sw.fl {nK : Nat} {I : k_I} {J : k_J} {V : Nat → Prop} {X : k_I} {D : Nat → Nat → Prop} {s : k_IB} (h_ : h_Sw nK I J V X D s) : s.2 = true ∨ (s.1 = X ∧ ∀ q p, D q p → h_Ok J X q p) := h_.2.2
theorem h_Sw.step {nK : Nat} {I : k_I} {J J2 : k_J} {V : Nat → Prop} {X : k_I} {D D2 : Nat → Nat → Prop} {s : k_IB} (h : h_Sw nK I J V X D s) (h30 : nK ≤ 30) (x13 : X 13 = I 13) (x20 : X 20 = I 20) (hJ : J2 37 = J 37) {q p : Nat} (hq : q < nK) (hp : p < nK) (hD : ∀ a b, D2 a b → D a b ∨ (a = q ∧ b = p)) : h_Sw nK I J V X D2 (mSw1 J2 q p s) := by
  have eok : ∀ Y a b, h_Ok J2 Y a b ↔ h_Ok J Y a b := fun Y a b => by unfold h_Ok; rw [hJ]
  rcases mSw1_v J2 q p s with ⟨h1, h2⟩ | ⟨h1, h2⟩
  · rw [h2]
    refine ⟨h.lo, h.lab, ?_⟩
    rcases h.fl with z | ⟨z1, z2⟩
    · exact Or.inl z
    · refine Or.inr ⟨z1, fun a b hab => ?_⟩
      rcases hD a b hab with y | ⟨rfl, rfl⟩
      · exact z2 a b y
      · rw [z1] at h1; exact (eok _ _ _).mp h1
  · rw [h2]
    refine ⟨fun c hc => (mw_C hc).trans (h.lo c hc), ?_, Or.inl rfl⟩
    rw [eok] at h1
    unfold h_Ok at h1
    have n1 : ¬ s.1 44 0 q < 0 := fun z => h1 (Or.inl z)
    have n2 : ¬ s.1 44 0 p < 0 := fun z => h1 (Or.inr (Or.inl z))
    have n3 : ¬ s.1 44 0 q ≤ s.1 44 0 p := fun z => h1 (Or.inr (Or.inr (Or.inl z)))
    have n4 : h_N I J p q := by
      have : ¬ s.1 13 0 4 < mFar s.1 (J 37 0 p) (J 37 0 q) := fun z => h1 (Or.inr (Or.inr (Or.inr z)))
      rw [h.lo 13 (by decide), mFar_of (h.lo 20 (by decide)), x13, mFar_of x20] at this
      exact this
    intro a ha
    show (V a → ∃ l, mw 44 q (s.1 44 0 p) s.1 44 0 a = nI l ∧ l ≤ a ∧ V l ∧ h_R V (h_N I J) a l) ∧ (¬ V a → mw 44 q (s.1 44 0 p) s.1 44 0 a = -1)
    rw [mwx]
    by_cases haq : a = q
    · subst haq
      rw [if_pos rfl]
      have hva : V a := Classical.byContradiction fun z => by
        have := (h.lab a ha).2 z
        rw [this] at n1; exact n1 (by decide)
      have hvp : V p := Classical.byContradiction fun z => by
        have := (h.lab p hp).2 z
        rw [this] at n2; exact n2 (by decide)
      obtain ⟨l, e, hl, hv, hr⟩ := (h.lab p hp).1 hvp
      obtain ⟨l2, e2, hl2, hv2, hr2⟩ := (h.lab a ha).1 hva
      refine ⟨fun _ => ⟨l, e, ?_, hv, ((h_R.rf V (h_N I J) a).st hvp (h_N.sy _ _ n4)).tr hr⟩, fun z => absurd hva z⟩
      rw [e, e2, nI_leI (by omega) (by omega)] at n3
      omega
    · rw [if_neg haq]; exact h.lab a ha
theorem mSw_v {nK : Nat} {I : k_I} {J J2 : k_J} {V : Nat → Prop} {X : k_I} (h30 : nK ≤ 30) (x13 : X 13 = I 13) (x20 : X 20 = I 20) (hJ : J2 37 = J 37) (hl : h_L nK V (h_N I J) (X 44 0)) : h_Sw nK I J V X (fun q p => q < nK ∧ p < nK) (mSw J2 nK X) := by
  have key := kLoop_i0 (step := mSwq J2 nK) (fun n s => h_Sw nK I J V X (fun q p => q < n ∧ p < nK) s) nK (X, false) ⟨fun _ _ => rfl, hl, Or.inr ⟨rfl, fun q p hqp => absurd hqp.1 (Nat.not_lt_zero _)⟩⟩ (by
    intro n s hn hs
    have inner := kLoop_i0 (step := mSw1 J2 n) (fun m s => h_Sw nK I J V X (fun q p => (q < n ∧ p < nK) ∨ (q = n ∧ p < m)) s) nK s ⟨hs.lo, hs.lab, hs.fl.imp id (fun z => ⟨z.1, fun q p hqp => z.2 q p (hqp.resolve_right (fun y => absurd y.2 (Nat.not_lt_zero _)))⟩)⟩ (by
      intro m r hm hr
      exact hr.step h30 x13 x20 hJ hn hm (fun a b hab => by
        rcases hab with y | ⟨y1, y2⟩
        · exact Or.inl (Or.inl y)
        · by_cases hbm : b = m
          · exact Or.inr ⟨y1, hbm⟩
          · exact Or.inl (Or.inr ⟨y1, by omega⟩)))
    exact ⟨inner.lo, inner.lab, inner.fl.imp id (fun z => ⟨z.1, fun q p hqp => z.2 q p (by
      by_cases hqn : q = n
      · exact Or.inr ⟨hqn, hqp.2⟩
      · exact Or.inl ⟨by omega, hqp.2⟩)⟩)⟩)
  exact key
theorem mHeapsF_v {nK : Nat} {I : k_I} {J J2 : k_J} {V : Nat → Prop} (h30 : nK ≤ 30) (hJ : J2 37 = J 37) : ∀ (d : Nat) (X : k_I), mMu (X 44 0) nK < d → X 13 = I 13 → X 20 = I 20 → h_L nK V (h_N I J) (X 44 0) → h_L nK V (h_N I J) (mHeapsF J2 nK d X 44 0) ∧ ∀ q p, q < nK → p < nK → h_Ok J (mHeapsF J2 nK d X) q p
  | 0, X, hm, _, _, _ => absurd hm (Nat.not_lt_zero _)
  | d + 1, X, hm, x13, x20, hl => by
    have sw := mSw_v h30 x13 x20 hJ hl
    obtain ⟨m1, m2, m3⟩ := mSw_m (J := J2) h30 hl.H
    unfold mHeapsF
    by_cases hf : (mSw J2 nK X).2 = true
    · rw [if_pos hf]
      exact mHeapsF_v h30 hJ d (mSw J2 nK X).1 (by have := m3 hf; omega) ((sw.lo 13 (by decide)).trans x13) ((sw.lo 20 (by decide)).trans x20) sw.lab
    · rw [if_neg hf]
      obtain ⟨z1, z2⟩ := sw.fl.resolve_left hf
      rw [z1]
      exact ⟨hl, fun q p hq hp => z2 q p ⟨hq, hp⟩⟩
/-- at the end a label is the least of its heap -/
theorem h_L.fix {nK : Nat} {I : k_I} {J : k_J} {V : Nat → Prop} {X : k_I} (h30 : nK ≤ 30) (hV : ∀ q, V q → q < nK) (x13 : X 13 = I 13) (x20 : X 20 = I 20) (hl : h_L nK V (h_N I J) (X 44 0)) (ok : ∀ q p, q < nK → p < nK → h_Ok J X q p) {q : Nat} (hv : V q) : ∃ l, X 44 0 q = nI l ∧ V l ∧ h_R V (h_N I J) q l ∧ ∀ r, h_R V (h_N I J) q r → l ≤ r := by
  obtain ⟨l, e, h1, h2, h3⟩ := (hl q (hV q hv)).1 hv
  refine ⟨l, e, h2, h3, fun r hr => ?_⟩
  have le : ∀ a b, V a → V b → h_N I J a b → X 44 0 b ≤ X 44 0 a := fun a b ha hb hn => by
    obtain ⟨la, ea, hla, -, -⟩ := (hl a (hV a ha)).1 ha
    obtain ⟨lb, eb, hlb, -, -⟩ := (hl b (hV b hb)).1 hb
    have := hV a ha
    have := hV b hb
    rcases ok b a (hV b hb) (hV a ha) with z | z | z | z
    · rw [eb] at z; exact absurd z (nI_pos (by omega))
    · rw [ea] at z; exact absurd z (nI_pos (by omega))
    · exact z
    · rw [x13, mFar_of x20] at z
      exact absurd z hn
  have key := hr (fun b => V b ∧ X 44 0 b = X 44 0 q) ⟨hv, rfl⟩ (fun a b ha hb hn => ⟨hb, by
    rw [← ha.2]
    have z1 := le a b ha.1 hb hn
    have z2 := le b a hb ha.1 (h_N.sy _ _ hn)
    rw [Int32.le_iff_toInt_le] at z1 z2
    exact Int32.toInt_inj.mp (by omega)⟩)
  obtain ⟨lr, er, hlr, -, -⟩ := (hl r (hV r key.1)).1 key.1
  have := hV r key.1
  have := hV q hv
  have e3 : nI lr = nI l := by rw [← er, ← e]; exact key.2
  have := (nI_eq (by omega) (by omega)).mp e3
  omega
