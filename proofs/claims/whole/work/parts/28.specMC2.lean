def mLeastF (x : Int32) : Nat → Nat → Int32
  | 0, _ => -1
  | d + 1, i => if x >>> (nI i &&& 31) &&& 1 = 0 then mLeastF x d (i + 1) else nI i
def mLeast (x : Int32) : Int32 := mLeastF x 32 0
theorem mLeast_eq {x : Int32} {k : Nat} (hk : k < 32) (h0 : ∀ j, j < k → bt x j = false) (h1 : bt x k = true) : mLeast x = nI k := by
  have key : ∀ (d i : Nat), i + d = 32 → i ≤ k → mLeastF x d i = nI k := by
    intro d
    induction d with
    | zero => intro i h h2; omega
    | succ d ih =>
      intro i h h2
      unfold mLeastF
      by_cases e : i = k
      · subst e
        rw [if_neg (fun q => by rw [b_at0 x hk] at q; rw [q] at h1; cases h1)]
      · rw [if_pos ((b_at0 x (by omega)).mpr (h0 i (by omega)))]
        exact ih (i + 1) (by omega) (by omega)
  exact key 32 0 rfl (Nat.zero_le _)
theorem mQuar_false {I : k_I} {a b : Nat} : ∀ (d i : Nat), kLoop (mQuar1 I a b) d i false = false
  | 0, _ => rfl
  | d + 1, i => by
    show kLoop (mQuar1 I a b) d (i + 1) (mQuar1 I a b i false) = false
    have : mQuar1 I a b i false = false := by simp [mQuar1]
    rw [this]; exact mQuar_false d (i + 1)
theorem mQuar_set {I : k_I} {J : k_J} {a b k : Nat} (h : mQuar I J a b = true) (hk : k < 3) : ¬ I 31 0 (3 * a + k) &&& I 31 0 (3 * b + k) = 0 := by
  intro e
  have key : ∀ (d i : Nat) (r : Bool), i ≤ k → k < i + d → kLoop (mQuar1 I a b) d i r = false := by
    intro d
    induction d with
    | zero => intro i r h1 h2; omega
    | succ d ih =>
      intro i r h1 h2
      show kLoop (mQuar1 I a b) d (i + 1) (mQuar1 I a b i r) = false
      by_cases q : i = k
      · subst q
        have : mQuar1 I a b i r = false := by simp [mQuar1, e]
        rw [this]; exact mQuar_false d (i + 1)
      · exact ih (i + 1) _ (by omega) (by omega)
  unfold mQuar at h
  rw [key 3 0 _ (Nat.zero_le _) (by omega)] at h
  cases h
def mQPart (I : k_I) (a b : Nat) (w : Int32) : Int32 := if w = 0 then nI a else if w = 1 then nI b else if w = 2 then mLeast (I 31 0 (3 * a) &&& I 31 0 (3 * b)) else if w = 3 then mLeast (I 31 0 (3 * a + 1) &&& I 31 0 (3 * b + 1)) else mLeast (I 31 0 (3 * a + 2) &&& I 31 0 (3 * b + 2))
def mQIn (I : k_I) (J : k_J) (k w : Int32) (a : Nat) : Nat → Nat → Int32 → Int32 ⊕ Int32
  | 0, _, n => .inr n
  | d + 1, b, n => if mQuar I J a b then (if n = k then .inl (mQPart I a b w) else mQIn I J k w a d (b + 1) (n + 1)) else mQIn I J k w a d (b + 1) n
def mQOut (mA : Nat) (I : k_I) (J : k_J) (k w : Int32) : Nat → Nat → Int32 → Int32
  | 0, _, _ => -1
  | d + 1, a, n => match mQIn I J k w a (mA - (a + 1)) (a + 1) n with
    | .inl r => r
    | .inr n' => mQOut mA I J k w d (a + 1) n'
def mcQuarrel (mA : Nat) (I : k_I) (J : k_J) (k w : Int32) : Int32 := if mIn (Int32.toInt64 w) 0 4 then mQOut mA I J k w mA 0 0 else -1002
theorem k_2_4 {w : Int32} (h : mIn (Int32.toInt64 w) 0 4 = true) (c0 : ¬ w = 0) (c1 : ¬ w = 1) : w = 2 ∨ w = 3 ∨ w = 4 := by
  rw [mIn_32 (a := 0) (A := 0) (b := 4) (B := 4) rfl rfl] at h
  simp only [Bool.and_eq_true, Bool.not_eq_true', decide_eq_false_iff_not] at h
  obtain ⟨h1, h2⟩ := h
  rw [Int32.lt_iff_toInt_lt] at h1 h2
  have z : (0 : Int32).toInt = 0 := rfl
  have z3 : (4 : Int32).toInt = 4 := rfl
  have d0 : ¬ w.toInt = 0 := fun e => c0 (Int32.toInt_inj.mp (e.trans (by decide)))
  have d1 : ¬ w.toInt = 1 := fun e => c1 (Int32.toInt_inj.mp (e.trans (by decide)))
  have hx : w.toInt = 2 ∨ w.toInt = 3 ∨ w.toInt = 4 := by omega
  rcases hx with e | e | e
  · exact Or.inl (Int32.toInt_inj.mp (e.trans (by decide)))
  · exact Or.inr (Or.inl (Int32.toInt_inj.mp (e.trans (by decide))))
  · exact Or.inr (Or.inr (Int32.toInt_inj.mp (e.trans (by decide))))
def mcCost (E : Nat → Nat) (mA mK : Nat) (k a : Int32) (s : k_IJ) : k_R := match kAns mK k with
  | none => (-1001, s)
  | some q => match kAns mA a with
    | none => (-1001, s)
    | some i => ((if mFit (mWork E mA s).1 q i then mCost (mWork E mA s).1 (mWork E mA s).2 ((mWork E mA s).2 37 0 q) q i else -1003), mWork E mA s)
def mF_c (I : k_I) (J : k_J) (q a : Nat) : Int32 := if mFit I q a then mCost I J (J 37 0 q) q a else I 13 0 5 + 1
def mF_b1 (I : k_I) (J : k_J) (q a : Nat) (c : Int32) (b : Nat) (n : Int32) : Int32 := n + (if I 13 0 5 < mF_c I J q b then 0 else if mF_c I J q b < c then 1 else if mF_c I J q b = c then (if nI a ≤ nI b then 0 else 1) else 0)
def mF_n (mA : Nat) (I : k_I) (J : k_J) (q a : Nat) (c : Int32) : Int32 := kLoop (mF_b1 I J q a c) mA 0 (0 : Int32)
def mFoF (mA : Nat) (I : k_I) (J : k_J) (q : Nat) (i w : Int32) : Nat → Nat → Int32
  | 0, _ => -1
  | d + 1, a => if I 13 0 5 < mF_c I J q a then mFoF mA I J q i w d (a + 1) else if mF_n mA I J q a (mF_c I J q a) = i then (if w = 0 then nI a else if w = 1 then mF_c I J q a else mQu I q a) else mFoF mA I J q i w d (a + 1)
def mcFound (E : Nat → Nat) (mA mK : Nat) (k i w : Int32) (s : k_IJ) : k_R := match kAns mK k with
  | none => (-1001, s)
  | some q => if mIn (Int32.toInt64 w) 0 2 then (mFoF mA (mWork E mA s).1 (mWork E mA s).2 q i w mA 0, mWork E mA s) else (-1002, s)
def mAskV (mA mK : Nat) (I : k_I) (J : k_J) (q : Nat) (w : Int32) : Int32 := if w = 0 then (if I 44 0 q < 0 then 0 else 1) else if w = 1 then mHeapOf mK I q else if w = 2 then (if I 44 0 q < 0 then -1 else mHelp mA I J q) else mFinds mA I J (J 37 0 q) q
def mcAsked (E : Nat → Nat) (mA mK : Nat) (k w : Int32) (s : k_IJ) : k_R := match kAns mK k with
  | none => (-1001, s)
  | some q => if mIn (Int32.toInt64 w) 0 3 then (mAskV mA mK (mFH E mA mK s).1 (mFH E mA mK s).2 q w, mFH E mA mK s) else (-1002, s)
def mCounted (I : k_I) (a : Nat) (w : Int32) : Int32 := if w = 1 then (if I 28 0 a < 0 then (if I 27 0 a = 0 then 1 else 0) else 0) else if w = 2 then (if I 28 0 a < 0 then (if I 27 0 a = 1 then 1 else 0) else 0) else if w = 3 then (if I 28 0 a < 0 then 0 else 1) else if w = 4 then (if I 28 0 a < 0 then (if I 43 0 a = 0 then 0 else 1) else 0) else 0
def mCnB (I : k_I) (J : k_J) (w : Int32) (a : Nat) : Nat → Nat → Int32 → Int32
  | 0, _, n => n
  | d + 1, b, n => if w = 5 then mCnB I J w a d (b + 1) (n + (if mQuar I J a b then 1 else 0)) else n
def mCn1 (mA : Nat) (I : k_I) (J : k_J) (w : Int32) (a : Nat) (n : Int32) : Int32 := mCnB I J w a (mA - (a + 1)) (a + 1) (n + mCounted I a w)
def mCnA (mA : Nat) (I : k_I) (J : k_J) (w : Int32) : Int32 := kLoop (mCn1 mA I J w) mA 0 (0 : Int32)
def mCnq (I : k_I) (w : Int32) (q : Nat) (n : Int32) : Int32 := n + (if w = 7 then (if I 44 0 q < 0 then 0 else 1) else if w = 8 then (if I 44 0 q = nI q then 1 else 0) else 0)
def mCnV (mA mK : Nat) (I : k_I) (J : k_J) (w : Int32) : Int32 := if w = 0 then nI mA else if w = 6 then nI mK else kLoop (mCnq I w) mK 0 (mCnA mA I J w)
def mcCount (E : Nat → Nat) (mA mK : Nat) (w : Int32) (s : k_IJ) : k_R := if mIn (Int32.toInt64 w) 0 8 then (mCnV mA mK (mFH E mA mK s).1 (mFH E mA mK s).2 w, mFH E mA mK s) else (-1002, s)
theorem kLoop_s {α : Type} {step : Nat → α → α} {d i : Nat} {a : α} : kLoop step (d + 1) i a = kLoop step d (i + 1) (step i a) := rfl
theorem mSw1_1 {J : k_J} {q p : Nat} {I : k_I} {b : Bool} (c : I 44 0 q < 0) : (I, b) = mSw1 J q p (I, b) := by unfold mSw1; simp only [c, if_true]
theorem mSw1_2 {J : k_J} {q p : Nat} {I : k_I} {b : Bool} (c : ¬ I 44 0 q < 0) (c2 : I 44 0 p < 0) : (I, b) = mSw1 J q p (I, b) := by unfold mSw1; simp only [c, c2, if_true, if_false]
theorem mSw1_3 {J : k_J} {q p : Nat} {I : k_I} {b : Bool} (c : ¬ I 44 0 q < 0) (c2 : ¬ I 44 0 p < 0) (c3 : I 44 0 q ≤ I 44 0 p) : (I, b) = mSw1 J q p (I, b) := by unfold mSw1; simp only [c, c2, c3, if_true, if_false]
theorem mSw1_4 {J : k_J} {q p : Nat} {I : k_I} {b : Bool} (c : ¬ I 44 0 q < 0) (c2 : ¬ I 44 0 p < 0) (c3 : ¬ I 44 0 q ≤ I 44 0 p) (c4 : I 13 0 4 < mFar I (J 37 0 p) (J 37 0 q)) : (I, b) = mSw1 J q p (I, b) := by unfold mSw1; simp only [c, c2, c3, c4, if_true, if_false]
theorem mSw1_5 {J : k_J} {q p : Nat} {I : k_I} {b : Bool} (c : ¬ I 44 0 q < 0) (c2 : ¬ I 44 0 p < 0) (c3 : ¬ I 44 0 q ≤ I 44 0 p) (c4 : ¬ I 13 0 4 < mFar I (J 37 0 p) (J 37 0 q)) : (mw 44 q (I 44 0 p) I, true) = mSw1 J q p (I, b) := by unfold mSw1; simp only [c, c2, c3, c4, if_false]
