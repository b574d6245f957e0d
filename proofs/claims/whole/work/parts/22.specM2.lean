def mWith1 (I : k_I) (a b k : Nat) (r : Bool) : Bool := r && decide (I 31 0 (3 * a + k) &&& (I 31 0 (3 * b + k) ^^^ -1) = 0)
def mWith (I : k_I) (a b : Nat) : Bool := kLoop (mWith1 I a b) 3 0 true
def mPartN (I : k_I) (a : Nat) : Int32 := kLoop (fun k n => n + (if I 35 0 (4 * a + k) < 0 then 0 else 1)) 4 0 (0 : Int32)
def mIsV (a v : Int32) : Bool := if a = 0 then mIn (Int32.toInt64 v) 0 7 else if a = 1 then mIn (Int32.toInt64 v) 0 9 else mIn (Int32.toInt64 v) 0 3
def mFit1 (I : k_I) (q a k : Nat) (r : Bool) : Bool := r && (!decide (I 41 0 (3 * a + k) = 0) && (decide (I 38 0 (3 * q + k) < 0) || decide (I 41 0 (3 * a + k) >>> (I 38 0 (3 * q + k) &&& 31) &&& 1 = 1)))
def mFit (I : k_I) (q a : Nat) : Bool := kLoop (mFit1 I q a) 3 0 (decide (I 28 0 a < 0))
def mQu1 (I : k_I) (q a k : Nat) : Bool := decide (I 38 0 (3 * q + k) < 0) && !decide (I 41 0 (3 * a + k) = mAllOf (nI k))
def mQu (I : k_I) (q a : Nat) : Int32 := kFindI (mQu1 I q a) 3 0
def mClamp (v : Int32) : Int32 := if v ≤ 9 then (if -9 ≤ v then v else -9) else 9
def mCostF (x y : Int64) : Int32 := 10 * mMany (x &&& (y ^^^ -1)) + 3 * mMany (y &&& (x ^^^ -1))
def mCost (I : k_I) (J : k_J) (x : Int64) (q a : Nat) : Int32 := mCostF (mFold (I 20 0) x) (mFold (I 20 0) (J 40 0 a)) + (if I 43 0 a = 0 then 0 else 15) + (if mQu I q a < 0 then 0 else 5) - mClamp (I 34 0 a)
def mFin1 (I : k_I) (J : k_J) (x : Int64) (q a : Nat) (n : Int32) : Int32 := n + (if mFit I q a then (if I 13 0 5 < mCost I J x q a then 0 else 1) else 0)
def mFinds (mA : Nat) (I : k_I) (J : k_J) (x : Int64) (q : Nat) : Int32 := kLoop (mFin1 I J x q) mA 0 (0 : Int32)
def mQuar0 (I : k_I) (J : k_J) (a b : Nat) : Bool := mPl I a && (mPl I b && (!decide (I 30 0 a = I 30 0 b) && !decide (I 13 0 4 < mFar I (J 29 0 a) (J 29 0 b))))
def mQuar1 (I : k_I) (a b k : Nat) (r : Bool) : Bool := r && !decide (I 31 0 (3 * a + k) &&& I 31 0 (3 * b + k) = 0)
def mQuar (I : k_I) (J : k_J) (a b : Nat) : Bool := kLoop (mQuar1 I a b) 3 0 (mQuar0 I J a b)
def mHelp (mA : Nat) (I : k_I) (J : k_J) (q : Nat) : Int32 := kFindI (fun w => !decide (mFinds mA I J (J 37 0 q ||| (1 <<< (Int32.toInt64 (nI w) &&& 63))) q ≤ 0)) 40 0
/-! heaps: labels that go round until none moves -/
def mHeap0 (mA mK : Nat) (J : k_J) (I : k_I) : k_I := kLoop (fun q I => mw 44 q (if mFinds mA I J (J 37 0 q) q = 0 then nI q else -1) I) mK 0 I
abbrev k_IB : Type := k_I × Bool
def mSw1 (J : k_J) (q p : Nat) (s : k_IB) : k_IB := if s.1 44 0 q < 0 then s else if s.1 44 0 p < 0 then s else if s.1 44 0 q ≤ s.1 44 0 p then s else if s.1 13 0 4 < mFar s.1 (J 37 0 p) (J 37 0 q) then s else (mw 44 q (s.1 44 0 p) s.1, true)
def mSwq (J : k_J) (mK q : Nat) (s : k_IB) : k_IB := kLoop (mSw1 J q) mK 0 s
def mSw (J : k_J) (mK : Nat) (I : k_I) : k_IB := kLoop (mSwq J mK) mK 0 (I, false)
def mHeapsF (J : k_J) (mK : Nat) : Nat → k_I → k_I
  | 0, I => I
  | d + 1, I => if (mSw J mK I).2 then mHeapsF J mK d (mSw J mK I).1 else (mSw J mK I).1
def mFHI (E : Nat → Nat) (mA mK : Nat) (s : k_IJ) : k_I := mHeapsF (mWork E mA s).2 mK 1000 (mHeap0 mA mK (mWork E mA s).2 (mWork E mA s).1)
def mFH (E : Nat → Nat) (mA mK : Nat) (s : k_IJ) : k_IJ := (mFHI E mA mK s, (mWork E mA s).2)
theorem mSw1_C {J : k_J} {q p c : Nat} {s : k_IB} (h : c ≠ 44) : (mSw1 J q p s).1 c = s.1 c := by
  unfold mSw1
  split
  · rfl
  · split
    · rfl
    · split
      · rfl
      · split
        · rfl
        · exact mw_C h
theorem mSwq_C {J : k_J} {mK q c : Nat} {s : k_IB} (h : c ≠ 44) : (mSwq J mK q s).1 c = s.1 c := kLoop_eq (g := fun s : k_IB => s.1 c) (step := mSw1 J q) (fun _ _ => mSw1_C h) mK 0 s
theorem mSw_C {J : k_J} {mK c : Nat} {I : k_I} (h : c ≠ 44) : (mSw J mK I).1 c = I c := kLoop_eq (g := fun s : k_IB => s.1 c) (step := mSwq J mK) (fun _ _ => mSwq_C h) mK 0 (I, false)
theorem mHeapsF_C {J : k_J} {mK c : Nat} (h : c ≠ 44) : ∀ (d : Nat) (I : k_I), mHeapsF J mK d I c = I c
  | 0, _ => rfl
  | d + 1, I => by
    unfold mHeapsF
    split
    · rw [mHeapsF_C h d, mSw_C h]
    · exact mSw_C h
theorem mHeap0_C {J : k_J} {mA mK c : Nat} {I : k_I} (h : c ≠ 44) : mHeap0 mA mK J I c = I c := kLoop_eq (g := fun I : k_I => I c) (fun _ _ => mw_C h) _ _ _
theorem mFHI_C {E : Nat → Nat} {mA mK c : Nat} {s : k_IJ} (h : c < 39) : mFHI E mA mK s c = s.1 c := by
  unfold mFHI
  rw [mHeapsF_C (by omega), mHeap0_C (by omega), mWork_C h]
theorem mFH_S {E : Nat → Nat} {mA mK : Nat} {s : k_IJ} (h : m_S mA mK E s.1) : m_S mA mK E (mFH E mA mK s).1 := h.low (mFHI_C (by decide)) (mFHI_C (by decide)) (mFHI_C (by decide))
/-- labels: none, or a number of an ask -/
def m_H (mK : Nat) (I : k_I) : Prop := ∀ q, q < mK → I 44 0 q < 0 ∨ ∃ h, h < mK ∧ I 44 0 q = nI h
def mMu (f : Nat → Int32) : Nat → Nat
  | 0 => 0
  | n + 1 => mMu f n + (f n).toNatClampNeg
theorem mMu_cong {f g : Nat → Int32} : ∀ {n : Nat}, (∀ k, k < n → f k = g k) → mMu f n = mMu g n
  | 0, _ => rfl
  | n + 1, h => by
    unfold mMu
    rw [mMu_cong (n := n) (fun k hk => h k (by omega)), h n (by omega)]
theorem mMu_upd {f : Nat → Int32} {q : Nat} {x : Int32} : ∀ {n : Nat}, q < n → mMu (upd f q x) n + (f q).toNatClampNeg = mMu f n + x.toNatClampNeg
  | 0, h => absurd h (Nat.not_lt_zero _)
  | n + 1, h => by
    unfold mMu
    by_cases hq : q = n
    · subst hq
      rw [mMu_cong (f := upd f q x) (g := f) (fun k hk => upd_n (by omega)), upd_s]
      omega
    · have := mMu_upd (f := f) (q := q) (x := x) (n := n) (by omega)
      rw [upd_n (f := f) (k := q) (j := n) (x := x) (fun e => hq e.symm)]
      omega
theorem mMu_le {f : Nat → Int32} {b : Nat} : ∀ {n : Nat}, (∀ k, k < n → (f k).toNatClampNeg ≤ b) → mMu f n ≤ n * b
  | 0, _ => Nat.zero_le _
  | n + 1, h => by
    unfold mMu
    have h1 := mMu_le (f := f) (b := b) (n := n) (fun k hk => h k (by omega))
    have h2 := h n (by omega)
    rw [Nat.succ_mul]
    omega
/-- a sweep keeps labels labels, and either changes nothing or lessens them -/
def m_Sw (mK : Nat) (h0 : Nat → Int32) (s : k_IB) : Prop := m_H mK s.1 ∧ mMu (s.1 44 0) mK ≤ mMu h0 mK ∧ (s.2 = true → mMu (s.1 44 0) mK < mMu h0 mK)
theorem mSw1_m {mK : Nat} {h0 : Nat → Int32} {J : k_J} {q p : Nat} (hq : q < mK) (hp : p < mK) (hK : mK ≤ 30) {s : k_IB} (h : m_Sw mK h0 s) : m_Sw mK h0 (mSw1 J q p s) := by
  unfold mSw1
  split
  · exact h
  · split
    · exact h
    · split
      · exact h
      · split
        · exact h
        · next c1 c2 c3 c4 =>
          obtain ⟨hh, hm, ht⟩ := h
          have e : (mw 44 q (s.1 44 0 p) s.1) 44 0 = upd (s.1 44 0) q (s.1 44 0 p) := k_up_s
          have h1 := mMu_upd (f := s.1 44 0) (q := q) (x := s.1 44 0 p) (n := mK) hq
          rcases hh q hq with a | ⟨a, ha, ea⟩
          · exact absurd a c1
          · rcases hh p hp with b | ⟨b, hb, eb⟩
            · exact absurd b c2
            · rw [ea, eb, nI_leI (by omega) (by omega)] at c3
              rw [ea, eb, nI_clamp (by omega), nI_clamp (by omega)] at h1
              refine ⟨fun k hk => ?_, ?_, fun _ => ?_⟩
              · show (mw 44 q (s.1 44 0 p) s.1) 44 0 k < 0 ∨ ∃ h, h < mK ∧ (mw 44 q (s.1 44 0 p) s.1) 44 0 k = nI h
                rw [e]
                unfold upd
                split
                · exact Or.inr ⟨b, hb, eb⟩
                · exact hh k hk
              · show mMu ((mw 44 q (s.1 44 0 p) s.1) 44 0) mK ≤ _
                rw [e, eb]; omega
              · show mMu ((mw 44 q (s.1 44 0 p) s.1) 44 0) mK < _
                rw [e, eb]; omega
theorem kLoop_invB {α : Type} {q : α → Prop} {step : Nat → α → α} {N : Nat} (h : ∀ i a, i < N → q a → q (step i a)) : ∀ (d i : Nat) (a : α), i + d ≤ N → q a → q (kLoop step d i a)
  | 0, _, _, _, h0 => h0
  | d + 1, i, a, hN, h0 => kLoop_invB h d (i + 1) (step i a) (by omega) (h i a (by omega) h0)
theorem mSw_m {mK : Nat} {J : k_J} (hK : mK ≤ 30) {I : k_I} (h : m_H mK I) : m_Sw mK (I 44 0) (mSw J mK I) := by
  unfold mSw
  refine kLoop_invB (N := mK) (q := m_Sw mK (I 44 0)) (fun i s hi h1 => ?_) _ _ _ (by omega) ⟨h, Nat.le_refl _, fun e => by cases e⟩
  unfold mSwq
  exact kLoop_invB (N := mK) (q := m_Sw mK (I 44 0)) (fun j s hj h2 => mSw1_m hi hj hK h2) _ _ _ (by omega) h1
theorem mHeap0_H {mA mK : Nat} {J : k_J} {I : k_I} : m_H mK (mHeap0 mA mK J I) := by
  have key : ∀ (d i : Nat) (I : k_I), i + d = mK → (∀ q, q < i → I 44 0 q < 0 ∨ ∃ h, h < mK ∧ I 44 0 q = nI h) → m_H mK (kLoop (fun q I => mw 44 q (if mFinds mA I J (J 37 0 q) q = 0 then nI q else -1) I) d i I) := by
    intro d
    induction d with
    | zero => 
      intro i I hi h
      have : i = mK := by omega
      subst this
      exact h
    | succ d ih =>
      intro i I hi h
      refine ih (i + 1) _ (by omega) (fun q hq => ?_)
      show (mw 44 i _ I) 44 0 q < 0 ∨ ∃ h, h < mK ∧ (mw 44 i _ I) 44 0 q = nI h
      unfold mw
      rw [k_up_s]
      unfold upd
      split
      · split
        · next e _ => exact Or.inr ⟨i, by omega, rfl⟩
        · exact Or.inl (by decide)
      · exact h q (by omega)
  exact key mK 0 I (by omega) (fun q hq => absurd hq (Nat.not_lt_zero q))
theorem mHeapsF_H {J : k_J} {mK : Nat} (hK : mK ≤ 30) : ∀ (d : Nat) (I : k_I), m_H mK I → m_H mK (mHeapsF J mK d I)
  | 0, _, h => h
  | d + 1, I, h => by
    unfold mHeapsF
    split
    · exact mHeapsF_H hK d _ (mSw_m hK h).1
    · exact (mSw_m hK h).1
theorem mFH_H {E : Nat → Nat} {mA mK : Nat} {s : k_IJ} (hK : mK ≤ 30) : m_H mK (mFH E mA mK s).1 := mHeapsF_H hK _ _ mHeap0_H
theorem m_H_mu {mK : Nat} {I : k_I} (hK : mK ≤ 30) (h : m_H mK I) : mMu (I 44 0) mK < 1000 := by
  have := mMu_le (f := I 44 0) (b := 29) (n := mK) (fun k hk => by
    rcases h k hk with a | ⟨b, hb, e⟩
    · have : (I 44 0 k).toNatClampNeg = 0 := by
        rw [Int32.lt_iff_toInt_lt] at a
        have z : (0 : Int32).toInt = 0 := rfl
        unfold Int32.toNatClampNeg
        omega
      omega
    · rw [e, nI_clamp (by omega)]; omega)
  have h2 : mK * 29 ≤ 30 * 29 := Nat.mul_le_mul_right 29 hK
  omega
def mHeapOf (mK : Nat) (I : k_I) (q : Nat) : Int32 := if I 44 0 q < 0 then -1 else kLoop (fun p n => n + (if I 44 0 p = nI p then 1 else 0)) (I 44 0 q).toNatClampNeg 0 (0 : Int32)
