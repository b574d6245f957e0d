/-! melt -/
theorem kLoop_cg {α : Type} {f g : Nat → α → α} : ∀ (d i : Nat) (a : α), (∀ k a, i ≤ k → k < i + d → f k a = g k a) → kLoop f d i a = kLoop g d i a
  | 0, _, _, _ => rfl
  | d + 1, i, a, h => by
    rw [kLoop_s, kLoop_s, h i a (Nat.le_refl _) (by omega)]
    exact kLoop_cg d (i + 1) _ (fun k a h1 h2 => h k a (by omega) (by omega))
theorem kAny_cg {p q : Nat → Bool} : ∀ (d i : Nat), (∀ k, i ≤ k → k < i + d → p k = q k) → kAny p d i = kAny q d i
  | 0, _, _ => rfl
  | d + 1, i, h => by
    unfold kAny
    rw [h i (Nat.le_refl _) (by omega), kAny_cg d (i + 1) (fun k h1 h2 => h k (by omega) (by omega))]
theorem kLoop_and {q : Nat → Bool} : ∀ (d i : Nat) (b : Bool), kLoop (fun k r => r && q k) d i b = (b && !kAny (fun k => !q k) d i)
  | 0, _, b => by
    show b = (b && !false)
    simp
  | d + 1, i, b => by
    rw [kLoop_s, kLoop_and d (i + 1)]
    show (b && q i && !kAny (fun k => !q k) d (i + 1)) = (b && !(!q i || kAny (fun k => !q k) d (i + 1)))
    cases b <;> cases q i <;> simp
theorem kLoop_rel {α β : Type} {R : α → β → Prop} {f : Nat → α → α} {g : Nat → β → β} (h : ∀ i a b, R a b → R (f i a) (g i b)) : ∀ (d i : Nat) (a : α) (b : β), R a b → R (kLoop f d i a) (kLoop g d i b)
  | 0, _, _, _, h0 => h0
  | d + 1, i, a, b, h0 => kLoop_rel h d (i + 1) (f i a) (g i b) (h i a b h0)
theorem kTak_v {i j : Nat} (hij : j ≠ i) {I : k_I} : (∀ c, c ≠ 8 → c ≠ 9 → kTak i j I c = I c) ∧ (∀ m, m ≠ i → kTak i j I 8 m = I 8 m ∧ kTak i j I 9 m = I 9 m) ∧ (∀ k, k ≠ 6 → k ≠ 7 → k ≠ 8 → kTak i j I 8 i k = I 8 i k) ∧ (∀ k, k < 3 → kTak i j I 9 i k = I 9 i k ||| I 9 j k) ∧ kTak i j I 8 i 6 = (I 8 i 6 ||| I 8 j 6) ∧ kTak i j I 8 i 7 = (if I 8 j 7 < I 8 i 7 then I 8 j 7 else I 8 i 7) ∧ kTak i j I 8 i 8 = I 8 i 8 + I 8 j 8 := by
  have key := kLoop_i0 (step := fun a I => k_up I 9 i (upd (I 9 i) a (I 9 i a ||| kSet I j (nI a)))) (fun n I' => (∀ k, k < n → I' 9 i k = I 9 i k ||| I 9 j k) ∧ (∀ m, m ≠ i → I' 9 m = I 9 m) ∧ (∀ k, ¬ k < n → I' 9 i k = I 9 i k)) 3 I ⟨fun k hk => absurd hk (Nat.not_lt_zero _), fun _ _ => rfl, fun _ _ => rfl⟩ (by
    rintro a I' ha ⟨h1, h2, h3⟩
    refine ⟨fun k hk => ?_, fun m hm => by rw [k_up_i hm]; exact h2 m hm, fun k hk => ?_⟩
    · rw [k_up_s]
      by_cases hka : k = a
      · subst hka
        rw [upd_s, kSet_n ha, h2 j hij, h3 k (Nat.lt_irrefl _)]
      · rw [upd_n hka]; exact h1 k (by omega)
    · rw [k_up_s, upd_n (by omega)]; exact h3 k (by omega))
  obtain ⟨t1, t2, -⟩ := key
  have tc : ∀ c, c ≠ 9 → kTakS i j I c = I c := fun c hc => kTakS_C hc
  rw [show kLoop (fun a I => k_up I 9 i (upd (I 9 i) a (I 9 i a ||| kSet I j (nI a)))) 3 0 I = kTakS i j I from rfl] at t1 t2
  unfold kTak
  generalize kTakS i j I = T at t1 t2 tc
  have e1 : kTak1 i j T 8 i = upd (T 8 i) 6 (T 8 i 6 ||| T 8 j 6) := k_up_s
  have e1m : ∀ m, m ≠ i → kTak1 i j T 8 m = T 8 m := fun m hm => k_up_i hm
  have e1c : ∀ c, c ≠ 8 → kTak1 i j T c = T c := fun c hc => k_up_C hc
  generalize kTak1 i j T = T1 at e1 e1m e1c
  have e2 : kTak2 i j T1 8 i = upd (T1 8 i) 7 (if T1 8 j 7 < T1 8 i 7 then T1 8 j 7 else T1 8 i 7) := k_up_s
  have e2m : ∀ m, m ≠ i → kTak2 i j T1 8 m = T1 8 m := fun m hm => k_up_i hm
  have e2c : ∀ c, c ≠ 8 → kTak2 i j T1 c = T1 c := fun c hc => k_up_C hc
  generalize kTak2 i j T1 = T2 at e2 e2m e2c
  have e3 : kTak3 i j T2 8 i = upd (T2 8 i) 8 (T2 8 i 8 + T2 8 j 8) := k_up_s
  have e3m : ∀ m, m ≠ i → kTak3 i j T2 8 m = T2 8 m := fun m hm => k_up_i hm
  have e3c : ∀ c, c ≠ 8 → kTak3 i j T2 c = T2 c := fun c hc => k_up_C hc
  generalize kTak3 i j T2 = T3 at e3 e3m e3c
  refine ⟨fun c h8 h9 => (e3c c h8).trans ((e2c c h8).trans ((e1c c h8).trans (tc c h9))), fun m hm => ⟨(e3m m hm).trans ((e2m m hm).trans ((e1m m hm).trans (by rw [tc 8 (by decide)]))), ?_⟩, fun k h6 h7 h8 => ?_, fun k hk => ?_, ?_, ?_, ?_⟩
  · rw [e3c 9 (by decide), e2c 9 (by decide), e1c 9 (by decide)]; exact t2 m hm
  · rw [e3, upd_n h8, e2, upd_n h7, e1, upd_n h6, tc 8 (by decide)]
  · rw [e3c 9 (by decide), e2c 9 (by decide), e1c 9 (by decide)]; exact t1 k hk
  · rw [e3, upd_n (by decide), e2, upd_n (by decide), e1, upd_s, tc 8 (by decide)]
  · rw [e3, upd_n (by decide), e2, upd_s, e1m j hij, e1, upd_n (by decide), tc 8 (by decide)]
  · rw [e3, upd_s, e2m j hij, e1m j hij, e2, upd_n (by decide), e1, upd_n (by decide), tc 8 (by decide)]
theorem mMe4_v {i j : Nat} (hij : j ≠ i) {I : k_I} : (∀ c, c ≠ 31 → mMe4 i j I c = I c) ∧ (∀ x, x ≠ i → ∀ k, k < 3 → mMe4 i j I 31 0 (3 * x + k) = I 31 0 (3 * x + k)) ∧ ∀ k, k < 3 → mMe4 i j I 31 0 (3 * i + k) = I 31 0 (3 * i + k) ||| I 31 0 (3 * j + k) := by
  have key := kLoop_i0 (step := fun k I => mw 31 (3 * i + k) (I 31 0 (3 * i + k) ||| I 31 0 (3 * j + k)) I) (fun n I' => (∀ c, c ≠ 31 → I' c = I c) ∧ (∀ x, x ≠ i → ∀ k, k < 3 → I' 31 0 (3 * x + k) = I 31 0 (3 * x + k)) ∧ (∀ k, k < n → I' 31 0 (3 * i + k) = I 31 0 (3 * i + k) ||| I 31 0 (3 * j + k)) ∧ ∀ k, n ≤ k → k < 3 → I' 31 0 (3 * i + k) = I 31 0 (3 * i + k)) 3 I ⟨fun _ _ => rfl, fun _ _ _ _ => rfl, fun k hk => absurd hk (Nat.not_lt_zero _), fun _ _ _ => rfl⟩ (by
    rintro n I' hn ⟨h1, h2, h3, h4⟩
    refine ⟨fun c hc => (mw_C hc).trans (h1 c hc), fun x hx k hk => ?_, fun k hk => ?_, fun k hk hk3 => ?_⟩
    · rw [mw_s, upd_n (by omega)]; exact h2 x hx k hk
    · rw [mw_s]
      by_cases hkn : k = n
      · subst hkn; rw [upd_s, h4 k (Nat.le_refl _) hn, h2 j hij k hn]
      · rw [upd_n (by omega)]; exact h3 k (by omega)
    · rw [mw_s, upd_n (by omega)]; exact h4 k (by omega) hk3)
  exact ⟨key.1, key.2.1, key.2.2.1⟩
theorem mMe_v {i j : Nat} (hij : j ≠ i) {I : k_I} : (∀ c, c ≠ 28 → c ≠ 31 → c ≠ 32 → c ≠ 33 → c ≠ 34 → mMe i j I c = I c) ∧ mMe i j I 28 = mw 28 j (nI i) I 28 ∧ (∀ x, x ≠ i → ∀ k, k < 3 → mMe i j I 31 0 (3 * x + k) = I 31 0 (3 * x + k)) ∧ (∀ k, k < 3 → mMe i j I 31 0 (3 * i + k) = I 31 0 (3 * i + k) ||| I 31 0 (3 * j + k)) ∧ (∀ x, mMe i j I 32 0 x = if x = i then (I 32 0 i ||| I 32 0 j) else I 32 0 x) ∧ (∀ x, mMe i j I 33 0 x = if x = i then (if I 33 0 i ≤ I 33 0 j then I 33 0 i else I 33 0 j) else I 33 0 x) ∧ ∀ x, mMe i j I 34 0 x = if x = i then I 34 0 i + I 34 0 j else I 34 0 x := by
  obtain ⟨m1, m2, m3⟩ := mMe4_v hij (I := mMe3 i j (mMe2 i j (mMe1 i j I)))
  have a1 : ∀ c, c ≠ 32 → mMe1 i j I c = I c := fun c hc => mw_C hc
  have a2 : ∀ c, c ≠ 32 → c ≠ 33 → mMe2 i j (mMe1 i j I) c = I c := fun c h1 h2 => (mw_C h2).trans (a1 c h1)
  have a3 : ∀ c, c ≠ 32 → c ≠ 33 → c ≠ 34 → mMe3 i j (mMe2 i j (mMe1 i j I)) c = I c := fun c h1 h2 h3 => (mw_C h3).trans (a2 c h1 h2)
  unfold mMe
  refine ⟨fun c h1 h2 h3 h4 h5 => by rw [mw_C h1, m1 c h2, a3 c h3 h4 h5], ?_, fun x hx k hk => ?_, fun k hk => ?_, fun x => ?_, fun x => ?_, fun x => ?_⟩
  · unfold mw
    rw [m1 28 (by decide), a3 28 (by decide) (by decide) (by decide)]
    funext i'
    simp only [k_up, m1 28 (by decide), a3 28 (by decide) (by decide) (by decide)]
  · rw [mw_C (by decide), m2 x hx k hk, a3 31 (by decide) (by decide) (by decide)]
  · rw [mw_C (by decide), m3 k hk, a3 31 (by decide) (by decide) (by decide)]
  · rw [mw_C (by decide), m1 32 (by decide)]
    unfold mMe3
    rw [mw_C (by decide)]
    unfold mMe2
    rw [mw_C (by decide)]
    exact mwx
  · rw [mw_C (by decide), m1 33 (by decide)]
    unfold mMe3
    rw [mw_C (by decide)]
    unfold mMe2
    rw [mwx, a1 33 (by decide)]
  · rw [mw_C (by decide), m1 34 (by decide)]
    unfold mMe3
    rw [mwx, a2 34 (by decide) (by decide)]
theorem mMe_hi {i j : Nat} {S K : k_I} (h : ∀ c, 13 ≤ c → S c = K c) : ∀ c, 13 ≤ c → mMe i j S c = mMe i j K c := by
  have h1 : ∀ c, 13 ≤ c → mMe1 i j S c = mMe1 i j K c := by
    unfold mMe1
    rw [h 32 (by decide)]
    exact hi_mw h (by decide)
  have h2 : ∀ c, 13 ≤ c → mMe2 i j (mMe1 i j S) c = mMe2 i j (mMe1 i j K) c := by
    unfold mMe2
    rw [h1 33 (by decide)]
    exact hi_mw h1 (by decide)
  have h3 : ∀ c, 13 ≤ c → mMe3 i j (mMe2 i j (mMe1 i j S)) c = mMe3 i j (mMe2 i j (mMe1 i j K)) c := by
    unfold mMe3
    rw [h2 34 (by decide)]
    exact hi_mw h2 (by decide)
  have h4 : ∀ c, 13 ≤ c → mMe4 i j (mMe3 i j (mMe2 i j (mMe1 i j S))) c = mMe4 i j (mMe3 i j (mMe2 i j (mMe1 i j K))) c := by
    refine kLoop_rel (R := fun S K : k_I => ∀ c, 13 ≤ c → S c = K c) (fun k S K h => ?_) 3 0 _ _ h3
    rw [h 31 (by decide)]
    exact hi_mw h (by decide)
  exact hi_mw h4 (by decide)
theorem k_Raw.eqs {nA nK : Nat} {E : Nat → Nat} {I : k_I} {J : k_J} (raw : k_Raw nA nK E I J) {i k : Nat} (hi : i < nA) (hp : I 27 0 i = 0) (hk : k < 3) : kSet I i (nI k) = I 31 0 (3 * i + k) := (kSet_n hk).trans (raw.sets i hi hp k hk).1
theorem kInside_m {nA nK : Nat} {E : Nat → Nat} {I : k_I} {J : k_J} (raw : k_Raw nA nK E I J) {i j : Nat} (hi : i < nA) (hp : I 27 0 i = 0) (hj : j < nA) (hq : I 27 0 j = 0) : kInside I i j = mWith I i j := by
  unfold kInside mWith
  have e : mWith1 I i j = fun k r => r && (fun k => decide (I 31 0 (3 * i + k) &&& (I 31 0 (3 * j + k) ^^^ -1) = 0)) k := rfl
  rw [e, kLoop_and, Bool.true_and]
  congr 1
  refine kAny_cg 3 0 fun k _ hk => ?_
  rw [raw.eqs hi hp (by omega), raw.eqs hj hq (by omega)]
theorem kLike_m {nA nK : Nat} {E : Nat → Nat} {I : k_I} {J : k_J} (raw : k_Raw nA nK E I J) {i j : Nat} (hi : i < nA) (hp : I 27 0 i = 0) (hj : j < nA) (hq : I 27 0 j = 0) : kLike I i j = mLike I i j := by
  unfold kLike mLike
  refine kLoop_cg 3 0 _ fun k n _ hk => ?_
  rw [raw.eqs hi hp (by omega), raw.eqs hj hq (by omega)]
  split
  · rfl
  · rw [Int32.add_zero]
theorem mMay_of {I I' : k_I} (h27 : I' 27 = I 27) (h28 : I' 28 = I 28) (h30 : I' 30 = I 30) (h31 : I' 31 = I 31) (i j : Nat) : mMay I' i j = mMay I i j := by
  have e : ∀ a b, mWith1 I' a b = mWith1 I a b := fun a b => by unfold mWith1; rw [h31]
  unfold mMay mPl mLike mWith
  rw [h27, h28, h30, h31, e, e]
theorem kMay_m {nA nK : Nat} {E : Nat → Nat} {I : k_I} {J : k_J} (h : RR nA nK E I J) {i j : Nat} (hi : i < nA) (hj : j < nA) : kMay I i j = mMay I i j := by
  unfold kMay mMay
  have e1 : decide (kKind I i = 0) = mPl I i := bool_iff (by rw [decide_eq_true_eq]; exact h.plain hi)
  have e2 : decide (kKind I j = 0) = mPl I j := bool_iff (by rw [decide_eq_true_eq]; exact h.plain hj)
  rw [e1, e2]
  cases hp : mPl I i
  · rfl
  · cases hq : mPl I j
    · rfl
    · have hp2 := (mPl_k hp).1
      have hq2 := (mPl_k hq).1
      rw [h.raw.steps i hi, h.raw.steps j hj, kLike_m h.raw hi hp2 hj hq2, kInside_m h.raw hi hp2 hj hq2, kInside_m h.raw hj hq2 hi hp2]
      have e3 : (!decide (mLike I i j < 2)) = decide (2 ≤ mLike I i j) := by
        refine bool_iff ?_
        simp only [Bool.not_eq_true', decide_eq_false_iff_not, decide_eq_true_eq]
        rw [Int32.lt_iff_toInt_lt, Int32.le_iff_toInt_le]
        omega
      rw [e3]
      cases decide (I 30 0 i = I 30 0 j) <;> cases decide (2 ≤ mLike I i j) <;> cases mWith I i j <;> cases mWith I j i <;> rfl
