/-! folds, distances, costs -/
theorem cb_cg {x y : Nat} : ∀ {n : Nat}, (∀ i, i < n → x.testBit i = y.testBit i) → cb x n = cb y n
  | 0, _ => rfl
  | n + 1, h => by
    rw [cb_s, cb_s, cb_cg (n := n) (fun i hi => h i (by omega))]
    unfold pb
    rw [h n (by omega)]
theorem cb_le (x : Nat) : ∀ n, cb x n ≤ n
  | 0 => Nat.le_refl 0
  | n + 1 => by
    have h1 := cb_le x n
    have h2 := pb_le x n
    rw [cb_s]; omega
theorem cb_cut {x n : Nat} : ∀ {m : Nat}, (∀ i, n ≤ i → x.testBit i = false) → n ≤ m → cb x m = cb x n
  | 0, _, h => by rw [show n = 0 by omega]
  | m + 1, h, hm => by
    rcases Nat.lt_or_ge m n with q | q
    · rw [show m + 1 = n by omega]
    · have e : pb x m = 0 := by
        unfold pb
        rw [h m q]; rfl
      rw [cb_s, cb_cut h q, e, Nat.add_zero]
theorem cb_ct {x : Nat} {p : Nat → Bool} (h : ∀ i, x.testBit i = p i) : ∀ n, cb x n = g_ct p n
  | 0 => rfl
  | n + 1 => by
    rw [cb_s, cb_ct h n]
    unfold pb
    rw [h n]; rfl
theorem t32_nI (x : Int32) : x = nI (t32 x) := by
  apply Int32.toBitVec_inj.mp
  show x.toBitVec = BitVec.ofNat 32 x.toBitVec.toNat
  simp
theorem kBC32_v (x : Int32) : kBC32 x = nI (g_ct (bt x) 32) := by
  rw [t32_nI (kBC32 x), t32_pop, cb_ct (x := t32 x) (p := bt x) (fun i => rfl)]
theorem l_b32 (b : Bool) : Int64.toInt32 (l_b b) = nI (if b then 1 else 0) := by cases b <;> rfl
theorem mMany_v (x : Int64) : mMany x = nI (g_ct (bl x) 40) := by
  have key := kLoop_i0 (step := fun w n => n + Int64.toInt32 ((x >>> (Int32.toInt64 (nI w) &&& 63)) &&& 1)) (fun m r => r = nI (g_ct (bl x) m)) 40 (0 : Int32) rfl (by
    rintro m r hm rfl
    rw [l_at x (by omega), l_b32, nI_add]
    rfl)
  exact key
theorem kBC64_v {x : Int64} (h : ∀ i, 40 ≤ i → bl x i = false) : kBC64 x = mMany x := by
  rw [mMany_v, t32_nI (kBC64 x), t64_pop, cb_cut (x := t64 x) (n := 40) (m := 64) (fun i hi => h i hi) (by decide), cb_ct (x := t64 x) (p := bl x) (fun i => rfl)]
theorem kFold_m (f : Nat → Int32) (x : Int64) : kFold f x = mFold f x := by
  unfold kFold mFold
  refine kLoop_cg 40 0 _ fun w r _ hw => ?_
  unfold kFoldStep mFoldStep
  rw [l_at x (by omega)]
  have h := l_and_bit x (n := w) (by omega)
  cases hb : bl x w
  · rw [if_pos (h.mpr hb)]
    have e : l_b false <<< (Int32.toInt64 (f w) &&& 63) = 0 := by
      show (0 : Int64) <<< (Int32.toInt64 (f w) &&& 63) = 0
      apply Int64.toBitVec_inj.mp
      rw [Int64.toBitVec_shiftLeft]
      show (0#64 <<< _) = 0#64
      simp
    rw [e, Int64.or_zero]
  · rw [if_neg (fun q => by rw [h.mp q] at hb; cases hb)]
    rfl
theorem kFold_cg {f g : Nat → Int32} (h : ∀ w, w < 40 → f w = g w) (x : Int64) : kFold f x = kFold g x := by
  unfold kFold
  refine kLoop_cg 40 0 _ fun w r _ hw => ?_
  unfold kFoldStep
  rw [h w (by omega)]
theorem kFold_hi {f : Nat → Int32} (h : ∀ w, w < 40 → ∃ n, n < 40 ∧ f w = nI n) (x : Int64) : ∀ i, 40 ≤ i → bl (kFold f x) i = false := by
  refine kLoop_i0 (step := kFoldStep f x) (fun _ r => ∀ i, 40 ≤ i → bl r i = false) 40 (0 : Int64) (fun i _ => l_0 i) ?_
  intro w r hw hr i hi
  unfold kFoldStep
  split
  · exact hr i hi
  · obtain ⟨n, hn, e⟩ := h w hw
    rw [l_or, hr i hi, e]
    rcases Nat.lt_or_ge i 64 with q | q
    · rw [l_bit n (by omega) q, decide_eq_false (by omega)]; rfl
    · rw [l_big q]; rfl
theorem RR.fold1 {nA nK : Nat} {E : Nat → Nat} {I : k_I} {J : k_J} (raw : k_Raw nA nK E I J) (x : Int64) : kFold (I 2 0) x = mFold (I 20 0) x := by
  rw [← kFold_m]
  exact kFold_cg (fun w hw => (raw.fold w hw).1) x
theorem RR.foldhi {nA nK : Nat} {E : Nat → Nat} {I : k_I} {J : k_J} (raw : k_Raw nA nK E I J) (x : Int64) : ∀ i, 40 ≤ i → bl (mFold (I 20 0) x) i = false := by
  rw [← RR.fold1 raw]
  exact kFold_hi (fun w hw => by rw [(raw.fold w hw).1]; exact (raw.fold w hw).2) x
theorem kFar_m {nA nK : Nat} {E : Nat → Nat} {I : k_I} {J : k_J} (raw : k_Raw nA nK E I J) (x y : Int64) : kFar (kFold (I 2 0) x) (kFold (I 2 0) y) = mFar I x y := by
  unfold kFar mFar
  rw [RR.fold1 raw, RR.fold1 raw]
  refine kBC64_v fun i hi => ?_
  rw [l_xor, RR.foldhi raw x i hi, RR.foldhi raw y i hi]; rfl
theorem mFar_of {I I' : k_I} (h : I' 20 = I 20) (x y : Int64) : mFar I' x y = mFar I x y := by unfold mFar; rw [h]
theorem kCostF_m {nA nK : Nat} {E : Nat → Nat} {I : k_I} {J : k_J} (raw : k_Raw nA nK E I J) (x y : Int64) : 10 * kBC64 (kFold (I 2 0) x &&& (kFold (I 2 0) y ^^^ -1)) + 3 * kBC64 (kFold (I 2 0) y &&& (kFold (I 2 0) x ^^^ -1)) = mCostF (mFold (I 20 0) x) (mFold (I 20 0) y) := by
  unfold mCostF
  rw [RR.fold1 raw, RR.fold1 raw, kBC64_v (fun i hi => by rw [l_and, RR.foldhi raw x i hi]; rfl), kBC64_v (fun i hi => by rw [l_and, RR.foldhi raw y i hi]; rfl)]
theorem kFindI_cg {p q : Nat → Bool} : ∀ (d i : Nat), (∀ k, i ≤ k → k < i + d → p k = q k) → kFindI p d i = kFindI q d i
  | 0, _, _ => rfl
  | d + 1, i, h => by
    unfold kFindI
    rw [h i (Nat.le_refl _) (by omega), kFindI_cg d (i + 1) (fun k h1 h2 => h k (by omega) (by omega))]
theorem kFindI_v {p : Nat → Bool} : ∀ (d i : Nat), kFindI p d i = -1 ∨ ∃ k, k < i + d ∧ kFindI p d i = nI k
  | 0, _ => Or.inl rfl
  | d + 1, i => by
    unfold kFindI
    split
    · exact Or.inr ⟨i, by omega, rfl⟩
    · rcases kFindI_v (p := p) d (i + 1) with h | ⟨k, hk, h⟩
      · exact Or.inl h
      · exact Or.inr ⟨k, by omega, h⟩
theorem kClamp_m (v : Int32) : kMax9 (kMin9 v) = mClamp v := by
  have z : (9 : Int32).toInt = 9 := rfl
  have z2 : (-9 : Int32).toInt = -9 := rfl
  unfold kMax9 kMin9 mClamp
  by_cases h1 : v < 9
  · have h2 : v ≤ 9 := by rw [Int32.le_iff_toInt_le]; rw [Int32.lt_iff_toInt_lt] at h1; omega
    rw [if_pos h1, if_pos h2]
    by_cases h3 : -9 < v
    · have h4 : -9 ≤ v := by rw [Int32.le_iff_toInt_le]; rw [Int32.lt_iff_toInt_lt] at h3; omega
      rw [if_pos h3, if_pos h4]
    · rw [if_neg h3]
      by_cases h4 : -9 ≤ v
      · rw [if_pos h4]
        apply Int32.toInt_inj.mp
        rw [Int32.le_iff_toInt_le] at h4
        rw [Int32.lt_iff_toInt_lt] at h3
        omega
      · rw [if_neg h4]
  · rw [if_neg h1, if_pos (by decide)]
    by_cases h2 : v ≤ 9
    · have e : v = 9 := by
        apply Int32.toInt_inj.mp
        rw [Int32.le_iff_toInt_le] at h2
        rw [Int32.lt_iff_toInt_lt] at h1
        omega
      rw [if_pos h2, e]; rfl
    · rw [if_neg h2]
/-- W: what the reference has after its work -/
theorem kQu_m {nA nK : Nat} {E : Nat → Nat} {I : k_I} {J : k_J} {W : k_IJ} (raw : k_Raw nA nK E I J) (k : k_Wk2 nA I J W) {q i : Nat} (hq : q < nK) (hi : i < nA) : kQu I q i = mQu W.1 q i := by
  unfold kQu mQu
  refine kFindI_cg 3 0 fun m _ hm => ?_
  have hm3 : m < 3 := by omega
  have hv : kVal I q (nI m) = I 38 0 (3 * q + m) := by
    unfold kVal
    rw [if_neg (nI_pos (by omega)), if_neg (show ¬ (3 : Int32) ≤ nI m from nI_ge (a := m) (b := 3) hm3 (by decide)), nI_clamp (by omega)]
    exact (raw.askv q hq m hm3).1
  unfold kQu1 mQu1
  rw [hv, kSet_n hm3, kAllV_m hm3, k.lo 38 (by decide), k.fs i hi m hm3]
  congr 1
  rcases (raw.askv q hq m hm3).2 with e | ⟨v, hv2, e⟩
  · rw [e]; rfl
  · rw [e]
    have h1 : ¬ nI v = -1 := fun z => nI_pos (n := v) (by omega) (by rw [z]; decide)
    rw [decide_eq_false h1, decide_eq_false (nI_pos (by omega))]
theorem kFit_m {nA nK : Nat} {E : Nat → Nat} {I : k_I} {J : k_J} {W : k_IJ} (h : RR nA nK E I J) (k : k_Wk2 nA I J W) {q i : Nat} (hq : q < nK) (hi : i < nA) : kFit I q i = mFit W.1 q i := by
  have raw := h.raw
  unfold kFit mFit
  have e : mFit1 W.1 q i = fun k r => r && (fun k => (!decide (W.1 41 0 (3 * i + k) = 0) && (decide (W.1 38 0 (3 * q + k) < 0) || decide (W.1 41 0 (3 * i + k) >>> (W.1 38 0 (3 * q + k) &&& 31) &&& 1 = 1)))) k := rfl
  rw [e, kLoop_and, h.moved hi, Bool.not_not, k.lo 28 (by decide)]
  congr 1
  congr 1
  refine kAny_cg 3 0 fun m _ hm => ?_
  have hm3 : m < 3 := by omega
  have hv : kVal I q (nI m) = I 38 0 (3 * q + m) := by
    unfold kVal
    rw [if_neg (nI_pos (by omega)), if_neg (show ¬ (3 : Int32) ≤ nI m from nI_ge (a := m) (b := 3) hm3 (by decide)), nI_clamp (by omega)]
    exact (raw.askv q hq m hm3).1
  unfold kFit1
  rw [hv, kSet_n hm3, k.lo 38 (by decide), k.fs i hi m hm3]
  rcases (raw.askv q hq m hm3).2 with e | ⟨v, hv2, e⟩
  · rw [e]; rfl
  · have h1 : ¬ nI v = -1 := fun z => nI_pos (n := v) (by omega) (by rw [z]; decide)
    unfold kHas
    rw [e, decide_eq_false h1, decide_eq_false (nI_pos (n := v) (by omega)), kSet_n hm3]
    have d1 : decide (I 9 i m &&& kBit (nI v) = 0) = !bt (I 9 i m) v := by
      have h2 := b_and_bit (I 9 i m) (n := v) (by omega)
      cases hb : bt (I 9 i m) v
      · exact decide_eq_true (h2.mpr hb)
      · exact decide_eq_false (fun z => by rw [h2.mp z] at hb; cases hb)
    have d2 : decide (I 9 i m >>> (nI v &&& 31) &&& 1 = 1) = bt (I 9 i m) v := by
      have h3 := b_at1 (I 9 i m) (i := v) (by omega)
      cases hb : bt (I 9 i m) v
      · exact decide_eq_false (fun z => by rw [h3.mp z] at hb; cases hb)
      · exact decide_eq_true (h3.mpr hb)
    rw [d1, d2, Bool.not_not]
theorem mFit_28 {I : k_I} {q i : Nat} (h : mFit I q i = true) : I 28 0 i < 0 := by
  unfold mFit at h
  have e : mFit1 I q i = fun k r => r && (fun k => (!decide (I 41 0 (3 * i + k) = 0) && (decide (I 38 0 (3 * q + k) < 0) || decide (I 41 0 (3 * i + k) >>> (I 38 0 (3 * q + k) &&& 31) &&& 1 = 1)))) k := rfl
  rw [e, kLoop_and, Bool.and_eq_true, decide_eq_true_eq] at h
  exact h.1
theorem kDoubt15 {nA nK : Nat} {E : Nat → Nat} {I : k_I} {J : k_J} {W : k_IJ} (h : RR nA nK E I J) (k : k_Wk2 nA I J W) {i : Nat} (hi : i < nA) (h28 : I 28 0 i < 0) : (if kDoubted I i = true then (15 : Int32) else 0) = if W.1 43 0 i = 0 then 0 else 15 := by
  have e : kDoubted I i = !decide (I 8 i 11 = 0) := by
    unfold kDoubted
    rw [h.moved hi, decide_eq_true h28, Bool.not_true, Bool.not_false, Bool.and_true]
  rw [e]
  by_cases c : I 8 i 11 = 0
  · rw [if_pos ((k.fd i hi).mpr c), decide_eq_true c, if_neg (by decide)]
  · rw [if_neg (fun z => c ((k.fd i hi).mp z)), decide_eq_false c, if_pos (by decide)]
theorem mQu5 (W : k_I) (q i : Nat) : (if mQu W q i = -1 then (0 : Int32) else 5) = if mQu W q i < 0 then 0 else 5 := by
  have key : mQu W q i = -1 ∨ ∃ k, k < 0 + 3 ∧ mQu W q i = nI k := kFindI_v 3 0
  rcases key with z | ⟨m, hm, z⟩
  · rw [z, if_pos rfl, if_pos (by decide)]
  · rw [z, if_neg (nI_pos (by omega)), if_neg (fun y => nI_pos (n := m) (by omega) (by rw [y]; decide))]
theorem kCost_m {nA nK : Nat} {E : Nat → Nat} {I : k_I} {J : k_J} {W : k_IJ} (h : RR nA nK E I J) (k : k_Wk2 nA I J W) {q i : Nat} (hq : q < nK) (hi : i < nA) (hf : mFit W.1 q i = true) (x : Int64) : kCost I J (kFold (I 2 0) x) q i = mCost W.1 W.2 x q i := by
  have h28 := mFit_28 hf
  rw [k.lo 28 (by decide)] at h28
  have e1 := kDoubt15 h k hi h28
  have e2 := mQu5 W.1 q i
  have e3 := kCostF_m h.raw x (J 8 i 5)
  have e4 := kQu_m h.raw k hq hi
  have e5 := h.set.f i hi
  have c1 : kCost I J (kFold (I 2 0) x) q i = (10 * kBC64 (kFold (I 2 0) x &&& (J 8 i 10 ^^^ -1)) + 3 * kBC64 (J 8 i 10 &&& (kFold (I 2 0) x ^^^ -1))) + (if kDoubted I i = true then 15 else 0) + (if kQu I q i = -1 then 0 else 5) - kMax9 (kMin9 (I 8 i 8)) := rfl
  have c2 : mCost W.1 W.2 x q i = mCostF (mFold (W.1 20 0) x) (mFold (W.1 20 0) (W.2 40 0 i)) + (if W.1 43 0 i = 0 then 0 else 15) + (if mQu W.1 q i < 0 then 0 else 5) - mClamp (W.1 34 0 i) := rfl
  have w20 : W.1 20 = I 20 := k.lo 20 (by decide)
  have w34 : W.1 34 = I 34 := k.lo 34 (by decide)
  rw [c1, e5, e3, e1, e4, e2, kClamp_m, h.raw.votes i hi, c2, w20, w34]
  have w40 := k.fw i hi
  clear c1 c2 e1 e2 e3 e4 e5
  generalize W.2 40 0 i = a at w40 ⊢
  subst w40
  generalize mCostF (mFold (I 20 0) x) (mFold (I 20 0) (J 8 i 5)) = A
  generalize mClamp (I 34 0 i) = B
  generalize mQu W.1 q i = Q
  generalize W.1 43 0 i = D
  rfl
theorem kFound_m {nA nK : Nat} {E : Nat → Nat} {I : k_I} {J : k_J} {W : k_IJ} (h : RR nA nK E I J) (k : k_Wk2 nA I J W) {q i : Nat} (hq : q < nK) (hi : i < nA) (x : Int64) : kFound I J (kFold (I 2 0) x) q i = (mFit W.1 q i && !decide (W.1 13 0 5 < mCost W.1 W.2 x q i)) := by
  unfold kFound
  rw [kFit_m h k hq hi, h.raw.lim.1, k.lo 13 (by decide)]
  cases hf : mFit W.1 q i
  · rw [Bool.false_and, Bool.false_and]
  · rw [kCost_m h k hq hi hf]
theorem RR_cost {nA nK : Nat} {E : Nat → Nat} {I : k_I} {J : k_J} (a b : Int32) (h : RR nA nK E I J) : k_St RR nA nK E (I, J) (cCost nA nK I J a b) (mcCost E nA nK a b (I, J)).1 nA nK (mcCost E nA nK a b (I, J)).2 := by
  have k := mWork_eq h
  unfold cCost mcCost
  cases ha : kAns nK a with
  | none => exact k_St.same h rfl
  | some q =>
    have hq := kAns_b ha
    cases hb : kAns nA b with
    | none => exact k_St.same h rfl
    | some i =>
      have hi := kAns_b hb
      refine ⟨h.ms, ?_, E, h.of k.lo k.loJ⟩
      show (if kFit I q i = true then kCost I J (J 11 q 2) q i else -1003) = if mFit (mWork E nA (I, J)).1 q i = true then mCost (mWork E nA (I, J)).1 (mWork E nA (I, J)).2 ((mWork E nA (I, J)).2 37 0 q) q i else -1003
      rw [kFit_m h k hq hi]
      by_cases hf : mFit (mWork E nA (I, J)).1 q i = true
      · rw [if_pos hf, if_pos hf, h.set.a q hq, k.loJ 37 (by decide), h.raw.askw q hq, kCost_m h k hq hi hf]
      · rw [if_neg hf, if_neg hf]
