/-! quarrels -/
theorem mQuar_e (I : k_I) (J : k_J) (a b : Nat) : mQuar I J a b = (mQuar0 I J a b && !kAny (fun k => !!decide (I 31 0 (3 * a + k) &&& I 31 0 (3 * b + k) = 0)) 3 0) := by
  unfold mQuar
  have e : mQuar1 I a b = fun k r => r && (fun k => !decide (I 31 0 (3 * a + k) &&& I 31 0 (3 * b + k) = 0)) k := rfl
  rw [e, kLoop_and]
theorem kQuar_m {nA nK : Nat} {E : Nat → Nat} {I : k_I} {J : k_J} (h : RR nA nK E I J) {i j : Nat} (hi : i < nA) (hj : j < nA) : kQuar I J i j = mQuar I J i j := by
  have e1 : decide (kKind I i = 0) = mPl I i := bool_iff (by rw [decide_eq_true_eq]; exact h.plain hi)
  have e2 : decide (kKind I j = 0) = mPl I j := bool_iff (by rw [decide_eq_true_eq]; exact h.plain hj)
  rw [mQuar_e]
  unfold kQuar mQuar0
  rw [e1, e2]
  cases hp : mPl I i
  · simp only [Bool.false_and]
  · cases hq : mPl I j
    · simp only [Bool.false_and, Bool.and_false]
    · have hp2 := (mPl_k hp).1
      have hq2 := (mPl_k hq).1
      rw [h.raw.steps i hi, h.raw.steps j hj, h.raw.near.1, h.set.f i hi, h.set.f j hj, kFar_m h.raw, h.raw.words i hi hp2, h.raw.words j hj hq2]
      have e3 : kAny (fun a => decide (kSet I i (nI a) &&& kSet I j (nI a) = 0)) 3 0 = kAny (fun k => !!decide (I 31 0 (3 * i + k) &&& I 31 0 (3 * j + k) = 0)) 3 0 := kAny_cg 3 0 fun k _ hk => by
        rw [Bool.not_not, h.raw.eqs hi hp2 (by omega), h.raw.eqs hj hq2 (by omega)]
      rw [e3]
      simp only [Bool.true_and]
      generalize decide (I 30 0 i = I 30 0 j) = x
      generalize kAny (fun k => !!decide (I 31 0 (3 * i + k) &&& I 31 0 (3 * j + k) = 0)) 3 0 = y
      generalize decide (I 13 0 4 < mFar I (J 29 0 i) (J 29 0 j)) = z
      cases x <;> cases y <;> cases z <;> rfl
theorem kLeast_eq {x : Int32} {k : Nat} (hk : k ≤ 30) (h0 : ∀ j, j < k → bt x j = false) (h1 : bt x k = true) : kLeast x = nI k := by
  have key : ∀ (d i : Nat), i + d = 31 → i ≤ k → kLeastF x d i = nI k := by
    intro d
    induction d with
    | zero => intro i h h2; omega
    | succ d ih =>
      intro i h h2
      unfold kLeastF
      by_cases e : i = k
      · subst e
        rw [if_neg (fun q => by rw [(b_and_bit x hk).mp q] at h1; cases h1)]
      · rw [if_pos ((b_and_bit x (by omega)).mpr (h0 i (by omega)))]
        exact ih (i + 1) (by omega) (by omega)
  exact key 31 0 rfl (Nat.zero_le _)
theorem kLeast_m {x : Int32} (h : ¬ x = 0) (hb : ∀ b, 10 ≤ b → bt x b = false) : kLeast x = mLeast x := by
  obtain ⟨k, hk, h0, h1⟩ := b_least h
  have : k < 10 := by
    rcases Nat.lt_or_ge k 10 with q | q
    · exact q
    · rw [hb k q] at h1; cases h1
  rw [kLeast_eq (by omega) h0 h1, mLeast_eq hk h0 h1]
theorem kQuarPart_m {nA nK : Nat} {E : Nat → Nat} {I : k_I} {J : k_J} (h : RR nA nK E I J) {i j : Nat} (hi : i < nA) (hj : j < nA) (hq : mQuar I J i j = true) {w : Int32} (hw : kWithin w 0 4 = true) : kQuarPart I i j w = mQPart I i j w := by
  have h0 : mQuar0 I J i j = true := by
    rw [mQuar_e] at hq
    exact (Bool.and_eq_true _ _ ▸ hq).1
  have hp : mPl I i = true := by
    unfold mQuar0 at h0
    exact (Bool.and_eq_true _ _ ▸ h0).1
  have hq2 : mPl I j = true := by
    unfold mQuar0 at h0
    exact (Bool.and_eq_true _ _ ▸ (Bool.and_eq_true _ _ ▸ h0).2).1
  have hpi := (mPl_k hp).1
  have hpj := (mPl_k hq2).1
  have key : ∀ k, k < 3 → kLeast (kSet I i (nI k) &&& kSet I j (nI k)) = mLeast (I 31 0 (3 * i + k) &&& I 31 0 (3 * j + k)) := fun k hk => by
    rw [h.raw.eqs hi hpi hk, h.raw.eqs hj hpj hk]
    refine kLeast_m (mQuar_set hq hk) fun b hb => ?_
    rw [b_and, (h.raw.sets i hi hpi k hk).2 b hb]; rfl
  obtain ⟨n, hn, rfl⟩ := kW_n (b := 4) rfl hw
  rcases (show n = 0 ∨ n = 1 ∨ n = 2 ∨ n = 3 ∨ n = 4 by omega) with rfl | rfl | rfl | rfl | rfl
  · rfl
  · rfl
  · exact key 0 (by decide)
  · exact key 1 (by decide)
  · exact key 2 (by decide)
theorem kQIn_m {nA nK : Nat} {E : Nat → Nat} {I : k_I} {J : k_J} (h : RR nA nK E I J) {a : Nat} (ha : a < nA) {k w : Int32} (hw : kWithin w 0 4 = true) : ∀ d b n, b + d = nA → kQIn I J k w a d b n = mQIn I J k w a d b n
  | 0, _, _, _ => rfl
  | d + 1, b, n, hd => by
    have hb : b < nA := by omega
    unfold kQIn mQIn
    rw [kQuar_m h ha hb]
    by_cases hq : mQuar I J a b = true
    · rw [if_pos hq, if_pos hq, kQuarPart_m h ha hb hq hw, kQIn_m h ha hw d (b + 1) (n + 1) (by omega)]
    · rw [if_neg hq, if_neg hq]
      exact kQIn_m h ha hw d (b + 1) n (by omega)
theorem kQOut_m {nA nK : Nat} {E : Nat → Nat} {I : k_I} {J : k_J} (h : RR nA nK E I J) {k w : Int32} (hw : kWithin w 0 4 = true) : ∀ d a n, a + d = nA → kQOut nA I J k w d a n = mQOut nA I J k w d a n
  | 0, _, _, _ => rfl
  | d + 1, a, n, hd => by
    unfold kQOut mQOut
    rw [kQIn_m h (by omega) hw (nA - (a + 1)) (a + 1) n (by omega)]
    cases mQIn I J k w a (nA - (a + 1)) (a + 1) n with
    | inl r => rfl
    | inr n' => exact kQOut_m h hw d (a + 1) n' (by omega)
theorem RR_quarrel {nA nK : Nat} {E : Nat → Nat} {I : k_I} {J : k_J} (a b : Int32) (h : RR nA nK E I J) : k_St RR nA nK E (I, J) (cQuarrel nA I J a b) (mcQuarrel nA I J a b) nA nK (I, J) := by
  refine k_St.same h ?_
  unfold cQuarrel mcQuarrel
  rw [mIn_4]
  by_cases hw : kWithin b 0 4 = true
  · rw [if_pos hw, if_pos hw]
    exact kQOut_m h hw nA 0 0 (Nat.zero_add _)
  · rw [if_neg hw, if_neg hw]
theorem mQuar_of {I I' : k_I} {J J' : k_J} (h : ∀ c, c < 39 → I' c = I c) (hj : J' 29 = J 29) (a b : Nat) : mQuar I' J' a b = mQuar I J a b := by
  rw [mQuar_e, mQuar_e]
  unfold mQuar0
  rw [mPl_of (h 27 (by decide)) (h 28 (by decide)), mPl_of (h 27 (by decide)) (h 28 (by decide)), h 30 (by decide), h 13 (by decide), h 31 (by decide), mFar_of (h 20 (by decide)), hj]
