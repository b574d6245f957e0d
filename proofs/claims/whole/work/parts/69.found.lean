/-! what is found -/
theorem g_ct_s (p : Nat → Bool) (n : Nat) : g_ct p (n + 1) = g_ct p n + (if p n then 1 else 0) := rfl
theorem g_ct_cg {p q : Nat → Bool} : ∀ {n : Nat}, (∀ k, k < n → p k = q k) → g_ct p n = g_ct q n
  | 0, _ => rfl
  | n + 1, h => by
    unfold g_ct
    rw [h n (by omega), g_ct_cg (n := n) (fun k hk => h k (by omega))]
theorem g_ct_any {p : Nat → Bool} : ∀ {n : Nat}, 0 < g_ct p n ↔ kAny p n 0 = true
  | 0 => ⟨fun h => absurd h (Nat.lt_irrefl 0), fun h => by cases h⟩
  | n + 1 => by
    have ih := g_ct_any (p := p) (n := n)
    rw [kAny_0] at ih ⊢
    unfold g_ct
    constructor
    · intro h
      by_cases hp : p n = true
      · exact ⟨n, by omega, hp⟩
      · rw [if_neg hp] at h
        obtain ⟨j, hj, e⟩ := ih.mp h
        exact ⟨j, by omega, e⟩
    · rintro ⟨j, hj, e⟩
      by_cases hjn : j = n
      · subst hjn; rw [if_pos e]; omega
      · have := ih.mpr ⟨j, by omega, e⟩
        omega
theorem kCt_v (p : Nat → Bool) (n : Nat) : kLoop (fun a n => if p a then n + 1 else n) n 0 (0 : Int32) = nI (g_ct p n) := by
  refine kLoop_i0 (step := fun a n => if p a then n + 1 else n) (fun m r => r = nI (g_ct p m)) n (0 : Int32) rfl ?_
  rintro m r hm rfl
  rw [g_ct_s]
  split
  · exact nI_1 _
  · rfl
theorem kCt_m (p : Nat → Bool) (n : Nat) : kLoop (fun a n => n + (if p a then 1 else 0)) n 0 (0 : Int32) = nI (g_ct p n) := by
  rw [← kCt_v]
  refine kLoop_cg n 0 _ fun k r _ _ => ?_
  split
  · rfl
  · rw [Int32.add_zero]
/-- is a found for q with the words x? -/
def g_F (W : k_IJ) (x : Int64) (q i : Nat) : Bool := mFit W.1 q i && !decide (W.1 13 0 5 < mCost W.1 W.2 x q i)
theorem mFinds_v (W : k_IJ) (x : Int64) (q n : Nat) : mFinds n W.1 W.2 x q = nI (g_ct (g_F W x q) n) := by
  rw [← kCt_m]
  unfold mFinds
  refine kLoop_cg n 0 _ fun k r _ _ => ?_
  unfold mFin1 g_F
  by_cases hf : mFit W.1 q k = true
  · by_cases hl : W.1 13 0 5 < mCost W.1 W.2 x q k
    · rw [if_pos hf, if_pos hl, hf, decide_eq_true hl]; rfl
    · rw [if_pos hf, if_neg hl, hf, decide_eq_false hl]; rfl
  · rw [if_neg hf, Bool.eq_false_iff.mpr hf, Bool.false_and, if_neg Bool.false_ne_true]
theorem mFinds_0 {W : k_IJ} {x : Int64} {q n : Nat} (hn : n ≤ 24) : (mFinds n W.1 W.2 x q = 0 ↔ kAny (g_F W x q) n 0 = false) ∧ (mFinds n W.1 W.2 x q ≤ 0 ↔ kAny (g_F W x q) n 0 = false) := by
  have h1 := g_ct_any (p := g_F W x q) (n := n)
  have h2 := g_ct_le (g_F W x q) n
  rw [mFinds_v]
  generalize g_ct (g_F W x q) n = c at h1 h2
  have e1 : nI c = 0 ↔ c = 0 := nI_eq (b := 0) (by omega) (by decide)
  have e2 : nI c ≤ 0 ↔ c ≤ 0 := nI_leI (b := 0) (by omega) (by decide)
  rw [e1, e2]
  cases hk : kAny (g_F W x q) n 0
  · rw [hk] at h1
    have : ¬ 0 < c := fun z => by cases h1.mp z
    exact ⟨⟨fun _ => rfl, fun _ => by omega⟩, ⟨fun _ => rfl, fun _ => by omega⟩⟩
  · have := h1.mpr hk
    exact ⟨⟨fun z => by omega, fun z => by cases z⟩, ⟨fun z => by omega, fun z => by cases z⟩⟩
theorem kFound_F {nA nK : Nat} {E : Nat → Nat} {I : k_I} {J : k_J} {W : k_IJ} (h : RR nA nK E I J) (k : k_Wk2 nA I J W) {q i : Nat} (hq : q < nK) (hi : i < nA) (x : Int64) : kFound I J (kFold (I 2 0) x) q i = g_F W x q i := kFound_m h k hq hi x
theorem kSome_F {nA nK : Nat} {E : Nat → Nat} {I : k_I} {J : k_J} {W : k_IJ} (h : RR nA nK E I J) (k : k_Wk2 nA I J W) {q : Nat} (hq : q < nK) (x : Int64) : kSome nA I J (kFold (I 2 0) x) q = kAny (g_F W x q) nA 0 :=
  kAny_cg nA 0 fun i _ hi => kFound_F h k hq (by omega) x
theorem RR.ask11 {nA nK : Nat} {E : Nat → Nat} {I : k_I} {J : k_J} (h : RR nA nK E I J) {q : Nat} (hq : q < nK) : J 11 q 2 = kFold (I 2 0) (J 37 0 q) := by rw [h.set.a q hq, h.raw.askw q hq]
theorem kSome_q {nA nK : Nat} {E : Nat → Nat} {I : k_I} {J : k_J} {W : k_IJ} (h : RR nA nK E I J) (k : k_Wk2 nA I J W) {q : Nat} (hq : q < nK) : kSome nA I J (J 11 q 2) q = kAny (g_F W (J 37 0 q) q) nA 0 := by
  rw [h.ask11 hq]
  exact kSome_F h k hq _
theorem kFoundN_m {nA nK : Nat} {E : Nat → Nat} {I : k_I} {J : k_J} {W : k_IJ} (h : RR nA nK E I J) (k : k_Wk2 nA I J W) {q : Nat} (hq : q < nK) : kFoundN nA I J q = mFinds nA W.1 W.2 (J 37 0 q) q := by
  rw [mFinds_v]
  unfold kFoundN
  rw [kCt_v (fun a => kFound I J (J 11 q 2) q a)]
  congr 1
  refine g_ct_cg fun i hi => ?_
  rw [h.ask11 hq]
  exact kFound_F h k hq hi _
theorem kHelp_m {nA nK : Nat} {E : Nat → Nat} {I : k_I} {J : k_J} {W : k_IJ} (h : RR nA nK E I J) (k : k_Wk2 nA I J W) {q : Nat} (hq : q < nK) : kHelp nA I J q = mHelp nA W.1 W.2 q := by
  unfold kHelp mHelp
  refine kFindI_cg 40 0 fun w _ hw => ?_
  rw [kSome_F h k hq, h.raw.askw q hq, k.loJ 37 (by decide)]
  have e := (mFinds_0 (W := W) (x := J 37 0 q ||| 1 <<< (Int32.toInt64 (nI w) &&& 63)) (q := q) h.ms.2.2.1).2
  cases hk : kAny (g_F W (J 37 0 q ||| 1 <<< (Int32.toInt64 (nI w) &&& 63)) q) nA 0
  · rw [decide_eq_true (e.mpr hk)]; rfl
  · rw [decide_eq_false (fun z => by rw [e.mp z] at hk; cases hk)]; rfl
theorem mF_c_F {W : k_IJ} {q i n : Nat} (hn : W.1 13 0 5 = nI n) (hn2 : n ≤ 200) : (g_F W (W.2 37 0 q) q i = true → mF_c W.1 W.2 q i = mCost W.1 W.2 (W.2 37 0 q) q i ∧ ¬ W.1 13 0 5 < mF_c W.1 W.2 q i) ∧ (g_F W (W.2 37 0 q) q i = false → W.1 13 0 5 < mF_c W.1 W.2 q i) := by
  unfold g_F mF_c
  cases hf : mFit W.1 q i
  · refine ⟨fun z => ?_, fun _ => ?_⟩
    · rw [Bool.false_and] at z; cases z
    · rw [if_neg Bool.false_ne_true, hn, nI_1]
      exact nI_lt (by omega) (by omega)
  · rw [Bool.true_and, if_pos rfl]
    refine ⟨fun z => ⟨rfl, ?_⟩, fun z => ?_⟩
    · simpa using z
    · simpa using z
theorem kBetter_m {nA nK : Nat} {E : Nat → Nat} {I : k_I} {J : k_J} {W : k_IJ} (h : RR nA nK E I J) (k : k_Wk2 nA I J W) {q a : Nat} (hq : q < nK) (ha : a < nA) (hF : g_F W (W.2 37 0 q) q a = true) : kBetter nA I J q a = mF_n nA W.1 W.2 q a (mF_c W.1 W.2 q a) := by
  obtain ⟨-, n, hn2, hn⟩ := h.raw.lim
  have e37 : W.2 37 = J 37 := k.loJ 37 (by decide)
  have e13 : W.1 13 0 5 = nI n := by rw [k.lo 13 (by decide)]; exact hn
  have hca := (mF_c_F e13 hn2).1 hF
  have cost : ∀ b, b < nA → g_F W (W.2 37 0 q) q b = true → kCost I J (J 11 q 2) q b = mF_c W.1 W.2 q b := fun b hb hFb => by
    rw [((mF_c_F e13 hn2).1 hFb).1, h.ask11 hq, e37]
    refine kCost_m h k hq hb ?_ _
    unfold g_F at hFb
    exact (Bool.and_eq_true _ _ ▸ hFb).1
  unfold kBetter mF_n
  refine kLoop_cg nA 0 _ fun b r _ hb => ?_
  have hb2 : b < nA := by omega
  have h24 := h.ms.2.2.1
  unfold kBet1 mF_b1
  have hFb : kFound I J (J 11 q 2) q b = g_F W (W.2 37 0 q) q b := by rw [h.ask11 hq, e37]; exact kFound_F h k hq hb2 _
  rw [hFb]
  cases hg : g_F W (W.2 37 0 q) q b
  · rw [Bool.false_and, if_neg Bool.false_ne_true, if_pos ((mF_c_F e13 hn2).2 hg), Int32.add_zero]
  · rw [Bool.true_and, if_neg ((mF_c_F e13 hn2).1 hg).2, cost b hb2 hg, cost a ha hF, h.raw.num a ha, h.raw.num b hb2]
    generalize mF_c W.1 W.2 q b = cb1
    generalize mF_c W.1 W.2 q a = ca1
    by_cases c1 : cb1 < ca1
    · rw [if_pos c1, decide_eq_true c1, Bool.true_or, if_pos rfl]
    · rw [if_neg c1, decide_eq_false c1, Bool.false_or]
      by_cases c2 : cb1 = ca1
      · rw [if_pos c2, decide_eq_true c2, Bool.true_and]
        by_cases c3 : nI a ≤ nI b
        · rw [if_pos c3, decide_eq_true c3, Bool.not_true, if_neg Bool.false_ne_true, Int32.add_zero]
        · rw [if_neg c3, decide_eq_false c3, Bool.not_false, if_pos rfl]
      · rw [if_neg c2, decide_eq_false c2, Bool.false_and, if_neg Bool.false_ne_true, Int32.add_zero]
theorem kFoundAt_m {nA nK : Nat} {E : Nat → Nat} {I : k_I} {J : k_J} {W : k_IJ} (h : RR nA nK E I J) (k : k_Wk2 nA I J W) {q : Nat} (hq : q < nK) (i w : Int32) : ∀ d a, a + d = nA → (match kFind (fun a => kFound I J (J 11 q 2) q a && decide (kBetter nA I J q a = i)) d a with
    | none => (-1 : Int32)
    | some x => if w = 0 then I 8 x 0 else if w = 1 then kCost I J (J 11 q 2) q x else kQu I q x) = mFoF nA W.1 W.2 q i w d a := by
  obtain ⟨-, n, hn2, hn⟩ := h.raw.lim
  have e37 : W.2 37 = J 37 := k.loJ 37 (by decide)
  have e13 : W.1 13 0 5 = nI n := by rw [k.lo 13 (by decide)]; exact hn
  intro d
  induction d with
  | zero => intro a _; rfl
  | succ d ih =>
    intro a had
    have ha : a < nA := by omega
    unfold kFind mFoF
    have hFa : kFound I J (J 11 q 2) q a = g_F W (W.2 37 0 q) q a := by rw [h.ask11 hq, e37]; exact kFound_F h k hq ha _
    rw [hFa]
    cases hg : g_F W (W.2 37 0 q) q a
    · rw [Bool.false_and, if_pos ((mF_c_F e13 hn2).2 hg), if_neg Bool.false_ne_true]
      exact ih (a + 1) (by omega)
    · obtain ⟨c1, c2⟩ := (mF_c_F e13 hn2).1 hg
      rw [Bool.true_and, if_neg c2, kBetter_m h k hq ha hg]
      by_cases hb : mF_n nA W.1 W.2 q a (mF_c W.1 W.2 q a) = i
      · rw [if_pos hb, if_pos (decide_eq_true hb)]
        simp only
        rw [h.raw.num a ha, kQu_m h.raw k hq ha]
        have hf : mFit W.1 q a = true := by
          unfold g_F at hg
          exact (Bool.and_eq_true _ _ ▸ hg).1
        rw [c1, h.ask11 hq, e37, kCost_m h k hq ha hf]
      · rw [if_neg hb, if_neg (by rw [decide_eq_true_eq]; exact hb)]
        exact ih (a + 1) (by omega)
theorem RR_found {nA nK : Nat} {E : Nat → Nat} {I : k_I} {J : k_J} (a b c : Int32) (h : RR nA nK E I J) : k_St RR nA nK E (I, J) (cFound nA nK I J a b c) (mcFound E nA nK a b c (I, J)).1 nA nK (mcFound E nA nK a b c (I, J)).2 := by
  have k := mWork_eq h
  unfold cFound mcFound
  rw [mIn_2]
  cases ha : kAns nK a with
  | none => exact k_St.same h rfl
  | some q =>
    have hq := kAns_b ha
    simp only
    by_cases hw : kWithin c 0 2 = true
    · rw [if_pos hw, if_pos hw]
      exact ⟨h.ms, kFoundAt_m h k hq b c nA 0 (Nat.zero_add _), E, h.of k.lo k.loJ⟩
    · rw [if_neg hw, if_neg hw]
      exact k_St.same h rfl
