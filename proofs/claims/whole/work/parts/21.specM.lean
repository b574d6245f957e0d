/-! the reference: what its methods answer and leave, on its slots (kinds 13, 20 .. 44) -/
def mIn (v a b : Int64) : Bool := !decide (v < a) && !decide (b < v)
def mIs (n : Nat) (a : Int32) : Bool := mIn (Int32.toInt64 a) 0 (Int32.toInt64 (nI n - 1))
theorem mIn_32 {v a b : Int32} {A B : Int64} (ha : Int32.toInt64 a = A) (hb : Int32.toInt64 b = B) : mIn (Int32.toInt64 v) A B = (!decide (v < a) && !decide (b < v)) := by
  subst ha; subst hb
  unfold mIn
  have h1 : (Int32.toInt64 v < Int32.toInt64 a) ↔ v < a := by rw [Int64.lt_iff_toInt_lt, Int32.lt_iff_toInt_lt, Int32.toInt_toInt64, Int32.toInt_toInt64]
  have h2 : (Int32.toInt64 b < Int32.toInt64 v) ↔ b < v := by rw [Int64.lt_iff_toInt_lt, Int32.lt_iff_toInt_lt, Int32.toInt_toInt64, Int32.toInt_toInt64]
  simp only [h1, h2]
theorem mIs_none {n : Nat} {a : Int32} (hn : n < 2 ^ 31) (h : mIs n a = false) : kAns n a = none := by
  unfold mIs at h
  rw [mIn_32 (a := 0) (A := 0) (b := nI n - 1) rfl rfl] at h
  unfold kAns
  by_cases h0 : a < 0
  · rw [if_pos h0]
  · rw [if_neg h0]
    by_cases h1 : nI n ≤ a
    · rw [if_pos h1]
    · exfalso
      have h2 : nI n - 1 < a := by simpa [h0] using h
      cases n with
      | zero => 
        rw [Int32.le_iff_toInt_le] at h1
        rw [Int32.lt_iff_toInt_lt] at h0
        have e0 : (nI 0).toInt = 0 := rfl
        have e1 : (0 : Int32).toInt = 0 := rfl
        omega
      | succ k =>
        rw [nI_pred] at h2
        rw [Int32.le_iff_toInt_le, nI_toInt hn] at h1
        rw [Int32.lt_iff_toInt_lt, nI_toInt (by omega)] at h2
        omega
theorem mIs_nat {n : Nat} {a : Int32} (hn : n < 2 ^ 31) (h : mIs n a = true) : ∃ i, i < n ∧ a = nI i := by
  unfold mIs at h
  rw [mIn_32 (a := 0) (A := 0) (b := nI n - 1) rfl rfl] at h
  simp only [Bool.and_eq_true, Bool.not_eq_true', decide_eq_false_iff_not] at h
  obtain ⟨i, hi, e⟩ := nI_of h.1
  refine ⟨i, ?_, e⟩
  have h2 := h.2
  rw [e] at h2
  cases n with
  | zero =>
    rw [Int32.lt_iff_toInt_lt, nI_toInt hi] at h2
    have e0 : (nI 0 - 1).toInt = -1 := by decide
    omega
  | succ k =>
    rw [nI_pred, Int32.lt_iff_toInt_lt, nI_toInt hi, nI_toInt (by omega)] at h2
    omega
def mw (c j : Nat) (x : Int32) (I : k_I) : k_I := k_up I c 0 (upd (I c 0) j x)
def mwJ (c j : Nat) (x : Int64) (J : k_J) : k_J := k_up J c 0 (vp_updL (J c 0) j x)
theorem mw_C {c j : Nat} {x : Int32} {I : k_I} {c' : Nat} (h : c' ≠ c) : mw c j x I c' = I c' := k_up_C h
/-- chains of leads -/
def mPath (f : Nat → Int32) : Nat → Nat → Nat → Prop
  | 0, a, e => a = e ∧ a < 24 ∧ f a < 0
  | d + 1, a, e => a < 24 ∧ ¬ f a < 0 ∧ ∃ b, f a = nI b ∧ b < 24 ∧ mPath f d b e
theorem mPath_lt {f : Nat → Int32} : ∀ {d a e : Nat}, mPath f d a e → a < 24 ∧ e < 24
  | 0, _, _, h => ⟨h.2.1, h.1 ▸ h.2.1⟩
  | _ + 1, _, _, h => ⟨h.1, (mPath_lt h.2.2.choose_spec.2.2).2⟩
def mE (E : Nat → Nat) (x : Int32) : Nat := E x.toNatClampNeg
theorem mE_n {E : Nat → Nat} {p : Nat} (h : p < 2 ^ 31) : mE E (nI p) = E p := by unfold mE; rw [nI_clamp h]
def m_S (mA mK : Nat) (E : Nat → Nat) (I : k_I) : Prop := I 13 0 6 = nI mA ∧ I 13 0 16 = nI mK ∧ mA ≤ 24 ∧ mK ≤ 30 ∧ (∀ a, a < mA → E a < mA ∧ ∃ d, mPath (I 28 0) d a (E a)) ∧ ∀ j, j < 4 * mA → I 35 0 j < 0 ∨ ∃ p, p < mA ∧ I 35 0 j = nI p
theorem m_S.low {mA mK : Nat} {E : Nat → Nat} {I I' : k_I} (h : m_S mA mK E I) (h1 : I' 13 = I 13) (h2 : I' 28 = I 28) (h3 : I' 35 = I 35) : m_S mA mK E I' := by
  unfold m_S at h ⊢
  rw [h1, h2, h3]; exact h
theorem m_S.up {mA mK : Nat} {E : Nat → Nat} {I : k_I} (h : m_S mA mK E I) (c i : Nat) (f : Nat → Int32) (hc : c ≠ 13 ∧ c ≠ 28 ∧ c ≠ 35) : m_S mA mK E (k_up I c i f) :=
  h.low (k_up_C (Ne.symm hc.1)) (k_up_C (Ne.symm hc.2.1)) (k_up_C (Ne.symm hc.2.2))
theorem m_S.part {mA mK : Nat} {E : Nat → Nat} {I : k_I} (h : m_S mA mK E I) {j : Nat} (hj : j < 4 * mA) (hn : ¬ I 35 0 j < 0) : ∃ p, p < mA ∧ I 35 0 j = nI p := by
  rcases h.2.2.2.2.2 j hj with q | q
  · exact absurd q hn
  · exact q
theorem m_S.eb {mA mK : Nat} {E : Nat → Nat} {I : k_I} (h : m_S mA mK E I) {x : Int32} (hx : ∃ p, p < mA ∧ x = nI p) : mE E x < mA := by
  obtain ⟨p, hp, rfl⟩ := hx
  have := h.2.2.1
  rw [mE_n (by omega)]
  exact (h.2.2.2.2.1 p hp).1
def mPl (I : k_I) (a : Nat) : Bool := decide (I 27 0 a = 0) && decide (I 28 0 a < 0)
def mAllOf (a : Int32) : Int32 := if a = 0 then 255 else if a = 1 then 1023 else 15
def mFoldStep (f : Nat → Int32) (x : Int64) (w : Nat) (r : Int64) : Int64 := r ||| (((x >>> (Int32.toInt64 (nI w) &&& 63)) &&& 1) <<< (Int32.toInt64 (f w) &&& 63))
def mFold (f : Nat → Int32) (x : Int64) : Int64 := kLoop (mFoldStep f x) 40 0 0
def mMany (x : Int64) : Int32 := kLoop (fun w n => n + Int64.toInt32 ((x >>> (Int32.toInt64 (nI w) &&& 63)) &&& 1)) 40 0 (0 : Int32)
def mFar (I : k_I) (x y : Int64) : Int32 := mMany (mFold (I 20 0) x ^^^ mFold (I 20 0) y)
/-! what joined ones have -/
def mWPs (a : Nat) (I : k_I) : k_I := kLoop (fun k I => mw 41 (3 * a + k) (I 31 0 (3 * a + k)) I) 3 0 I
def mWPd1 (a t : Nat) (I : k_I) : k_I := mw 43 a (if I 43 0 a = 0 then (if I 32 0 a >>> (nI t &&& 31) &&& 1 = 1 then (if I 22 0 t ≤ I 33 0 a then 0 else 1) else 0) else 1) I
def mWPd (a : Nat) (I : k_I) : k_I := kLoop (mWPd1 a) 10 0 I
def mWPt (a : Nat) (I : k_I) : k_I := mw 42 a (I 32 0 a) I
def mWP (a : Nat) (I : k_I) : k_I := mWPd a (mWPs a (mw 43 a 0 (mWPt a (mw 39 a 1 I))))
def mWPJ (a : Nat) (J : k_J) : k_J := mwJ 40 a (J 29 0 a) J
def mCan1 (E : Nat → Nat) (I : k_I) (a k : Nat) (b : Bool) : Bool := b && (decide (I 35 0 (4 * a + k) < 0) || !decide (I 39 0 (mE E (I 35 0 (4 * a + k))) = 0))
def mCan (E : Nat → Nat) (I : k_I) (a : Nat) : Bool := kLoop (mCan1 E I a) 4 0 true
def mWJs (a : Nat) (I : k_I) : k_I := kLoop (fun k I => mw 41 (3 * a + k) (mAllOf (nI k)) I) 3 0 I
def mWJ0 (a : Nat) (I : k_I) : k_I := mWJs a (mw 43 a 0 (mw 42 a 0 (mw 39 a 1 I)))
def mWJ1s (a e : Nat) (I : k_I) : k_I := kLoop (fun k I => mw 41 (3 * a + k) (I 41 0 (3 * a + k) &&& I 41 0 (3 * e + k)) I) 3 0 I
def mWJ1t (a e : Nat) (I : k_I) : k_I := mw 42 a (I 42 0 a ||| I 42 0 e) I
def mWJ1d (a e : Nat) (I : k_I) : k_I := mw 43 a (if I 43 0 a = 0 then (if I 43 0 e = 0 then 0 else 1) else 1) I
def mWJ1 (a e : Nat) (I : k_I) : k_I := mWJ1s a e (mWJ1d a e (mWJ1t a e I))
def mWJ1J (a e : Nat) (J : k_J) : k_J := mwJ 40 a (J 40 0 a ||| J 40 0 e) J
def mWJL (E : Nat → Nat) (a : Nat) : Nat → Nat → k_IJ → k_IJ
  | 0, _, s => s
  | d + 1, k, s => if s.1 35 0 (4 * a + k) < 0 then s else mWJL E a d (k + 1) (mWJ1 a (mE E (s.1 35 0 (4 * a + k))) s.1, mWJ1J a (mE E (s.1 35 0 (4 * a + k))) s.2)
def mWJ (E : Nat → Nat) (a : Nat) (s : k_IJ) : k_IJ := if mCan E s.1 a then mWJL E a 4 0 (mWJ0 a s.1, mwJ 40 a 0 s.2) else s
def mWk1 (a : Nat) (s : k_IJ) : k_IJ := if (mw 39 a 0 s.1) 27 0 a = 0 then (mWP a (mw 39 a 0 s.1), mWPJ a s.2) else (mw 39 a 0 s.1, s.2)
def mWk2 (E : Nat → Nat) (a : Nat) (s : k_IJ) : k_IJ := if s.1 39 0 a = 0 then mWJ E a s else s
def mWkR (E : Nat → Nat) (mA : Nat) (s : k_IJ) : k_IJ := kLoop (mWk2 E) mA 0 s
def mWkA (mA : Nat) (s : k_IJ) : k_IJ := kLoop mWk1 mA 0 s
def mWkB (E : Nat → Nat) (mA : Nat) (s : k_IJ) : k_IJ := kLoop (fun _ s => mWkR E mA s) mA 0 s
def mWork (E : Nat → Nat) (mA : Nat) (s : k_IJ) : k_IJ := mWkB E mA (mWkA mA s)
/-! .. of which kinds 39 .. 43 alone change -/
theorem mWPs_C {a c : Nat} {I : k_I} (h : c < 39) : mWPs a I c = I c := kLoop_eq (g := fun I : k_I => I c) (fun _ _ => mw_C (by omega)) _ _ _
theorem mWPd_C {a c : Nat} {I : k_I} (h : c < 39) : mWPd a I c = I c := kLoop_eq (g := fun I : k_I => I c) (fun _ _ => mw_C (by omega)) _ _ _
theorem mWP_C {a c : Nat} {I : k_I} (h : c < 39) : mWP a I c = I c := by
  unfold mWP mWPt
  rw [mWPd_C h, mWPs_C h, mw_C (by omega), mw_C (by omega), mw_C (by omega)]
theorem mWJ0_C {a c : Nat} {I : k_I} (h : c < 39) : mWJ0 a I c = I c := by
  have h1 : ∀ I : k_I, mWJs a I c = I c := fun I => kLoop_eq (g := fun I : k_I => I c) (fun _ _ => mw_C (by omega)) _ _ _
  unfold mWJ0
  rw [h1, mw_C (by omega), mw_C (by omega), mw_C (by omega)]
theorem mWJ1_C {a e c : Nat} {I : k_I} (h : c < 39) : mWJ1 a e I c = I c := by
  have h1 : ∀ I : k_I, mWJ1s a e I c = I c := fun I => kLoop_eq (g := fun I : k_I => I c) (fun _ _ => mw_C (by omega)) _ _ _
  unfold mWJ1 mWJ1d mWJ1t
  rw [h1, mw_C (by omega), mw_C (by omega)]
theorem mWJL_C {E : Nat → Nat} {a c : Nat} (h : c < 39) : ∀ (d k : Nat) (s : k_IJ), (mWJL E a d k s).1 c = s.1 c
  | 0, _, _ => rfl
  | d + 1, k, s => by
    unfold mWJL
    split
    · rfl
    · rw [mWJL_C h d]; exact mWJ1_C h
theorem mWJ_C {E : Nat → Nat} {a c : Nat} {s : k_IJ} (h : c < 39) : (mWJ E a s).1 c = s.1 c := by
  unfold mWJ
  split
  · rw [mWJL_C h]; exact mWJ0_C h
  · rfl
theorem mWk1_C {a c : Nat} {s : k_IJ} (h : c < 39) : (mWk1 a s).1 c = s.1 c := by
  unfold mWk1
  split
  · show mWP a _ c = _
    rw [mWP_C h, mw_C (by omega)]
  · exact mw_C (by omega)
theorem mWk2_C {E : Nat → Nat} {a c : Nat} {s : k_IJ} (h : c < 39) : (mWk2 E a s).1 c = s.1 c := by
  unfold mWk2
  split
  · exact mWJ_C h
  · rfl
theorem mWkA_C {mA c : Nat} {s : k_IJ} (h : c < 39) : (mWkA mA s).1 c = s.1 c := kLoop_eq (g := fun s : k_IJ => s.1 c) (step := mWk1) (fun _ _ => mWk1_C h) mA 0 s
theorem mWkR_C {E : Nat → Nat} {mA c : Nat} {s : k_IJ} (h : c < 39) : (mWkR E mA s).1 c = s.1 c := kLoop_eq (g := fun s : k_IJ => s.1 c) (step := mWk2 E) (fun _ _ => mWk2_C h) mA 0 s
theorem mWkB_C {E : Nat → Nat} {mA c : Nat} {s : k_IJ} (h : c < 39) : (mWkB E mA s).1 c = s.1 c := kLoop_eq (g := fun s : k_IJ => s.1 c) (step := fun _ s => mWkR E mA s) (fun _ _ => mWkR_C h) mA 0 s
theorem mWork_C {E : Nat → Nat} {mA c : Nat} {s : k_IJ} (h : c < 39) : (mWork E mA s).1 c = s.1 c := by
  unfold mWork
  rw [mWkB_C h, mWkA_C h]
theorem mWP_S {mA mK a : Nat} {E : Nat → Nat} {I : k_I} (h : m_S mA mK E I) : m_S mA mK E (mWP a I) := h.low (mWP_C (by decide)) (mWP_C (by decide)) (mWP_C (by decide))
theorem mWJ_S {mA mK a : Nat} {E : Nat → Nat} {s : k_IJ} (h : m_S mA mK E s.1) : m_S mA mK E (mWJ E a s).1 := h.low (mWJ_C (by decide)) (mWJ_C (by decide)) (mWJ_C (by decide))
theorem mWork_S {mA mK : Nat} {E : Nat → Nat} {s : k_IJ} (h : m_S mA mK E s.1) : m_S mA mK E (mWork E mA s).1 := h.low (mWork_C (by decide)) (mWork_C (by decide)) (mWork_C (by decide))
/-! marks that go round by round -/
def mHP0 (mA f : Nat) (I : k_I) : k_I := kLoop (fun k I => mw 39 k (if nI k = nI f then 1 else 0) I) mA 0 I
def mHPL (E : Nat → Nat) (j : Nat) : Nat → Nat → k_I → k_I
  | 0, _, I => I
  | d + 1, k, I => if I 39 0 j = 0 then I else if I 27 0 j = 1 then (if I 35 0 (4 * j + k) < 0 then mHPL E j d (k + 1) I else mHPL E j d (k + 1) (mw 39 (mE E (I 35 0 (4 * j + k))) 1 I)) else I
def mHPR (E : Nat → Nat) (mA : Nat) (I : k_I) : k_I := kLoop (fun j I => mHPL E j 4 0 I) mA 0 I
def mHP (E : Nat → Nat) (mA f : Nat) (I : k_I) : k_I := kLoop (fun _ I => mHPR E mA I) mA 0 (mHP0 mA f I)
theorem mHPL_C {E : Nat → Nat} {j c : Nat} (h : c ≠ 39) : ∀ (d k : Nat) (I : k_I), mHPL E j d k I c = I c
  | 0, _, _ => rfl
  | d + 1, k, I => by
    unfold mHPL
    split
    · rfl
    · split
      · split
        · exact mHPL_C h d _ _
        · rw [mHPL_C h d]; exact mw_C h
      · rfl
theorem mHPR_C {E : Nat → Nat} {mA c : Nat} {I : k_I} (h : c ≠ 39) : mHPR E mA I c = I c := kLoop_eq (g := fun I : k_I => I c) (step := fun j I => mHPL E j 4 0 I) (fun _ _ => mHPL_C h _ _ _) mA 0 I
theorem mHP0_C {mA f c : Nat} {I : k_I} (h : c ≠ 39) : mHP0 mA f I c = I c := kLoop_eq (g := fun I : k_I => I c) (fun _ _ => mw_C h) _ _ _
theorem mHP_C {E : Nat → Nat} {mA f c : Nat} {I : k_I} (h : c ≠ 39) : mHP E mA f I c = I c := by
  have h1 := kLoop_eq (g := fun I : k_I => I c) (step := fun _ I => mHPR E mA I) (fun _ _ => mHPR_C h) mA 0 (mHP0 mA f I)
  show kLoop (fun _ I => mHPR E mA I) mA 0 (mHP0 mA f I) c = I c
  exact h1.trans (mHP0_C h)
theorem mHP_S {mA mK f : Nat} {E : Nat → Nat} {I : k_I} (h : m_S mA mK E I) : m_S mA mK E (mHP E mA f I) := h.low (mHP_C (by decide)) (mHP_C (by decide)) (mHP_C (by decide))
/-- marks are 0 or 1 -/
def m01 (n : Nat) (I : k_I) : Prop := ∀ j, j < n → I 39 0 j = 0 ∨ I 39 0 j = 1
theorem m01_w {n j : Nat} {x : Int32} {I : k_I} (h : m01 n I) (hx : x = 0 ∨ x = 1) : m01 n (mw 39 j x I) := by
  intro i hi
  unfold mw
  rw [k_up_s]
  unfold upd
  split
  · exact hx
  · exact h i hi
theorem mHPL_01 {E : Nat → Nat} {j n : Nat} : ∀ (d k : Nat) (I : k_I), m01 n I → m01 n (mHPL E j d k I)
  | 0, _, _, h => h
  | d + 1, k, I, h => by
    unfold mHPL
    split
    · exact h
    · split
      · split
        · exact mHPL_01 d _ _ h
        · exact mHPL_01 d _ _ (m01_w h (Or.inr rfl))
      · exact h
theorem mHP0_01 {f : Nat} : ∀ (d i : Nat) (I : k_I), m01 i I → m01 (i + d) (kLoop (fun k I => mw 39 k (if nI k = nI f then 1 else 0) I) d i I)
  | 0, _, _, h => h
  | d + 1, i, I, h => by
    have h1 : m01 (i + 1) (mw 39 i (if nI i = nI f then 1 else 0) I) := by
      intro k hk
      unfold mw
      rw [k_up_s]
      unfold upd
      split
      · split
        · exact Or.inr rfl
        · exact Or.inl rfl
      · exact h k (by omega)
    have := mHP0_01 (f := f) d (i + 1) _ h1
    rw [show i + 1 + d = i + (d + 1) by omega] at this
    exact this
theorem mHP_01 {E : Nat → Nat} {mA f : Nat} {I : k_I} : m01 mA (mHP E mA f I) := by
  unfold mHP
  refine kLoop_inv (q := m01 mA) (fun _ I h => ?_) _ _ _ ?_
  · exact kLoop_inv (q := m01 mA) (fun _ I h => mHPL_01 _ _ _ h) _ _ _ h
  · have := mHP0_01 (f := f) mA 0 I (fun j hj => absurd hj (Nat.not_lt_zero j))
    rw [Nat.zero_add] at this
    exact this
theorem m01_b {x : Int32} (h : x = 0 ∨ x = 1) : x = k_b (!decide (x = 0)) := by
  rcases h with rfl | rfl <;> rfl
theorem mIn_vp {w b : Int32} {B : Int64} {n : Nat} (h : mIn (Int32.toInt64 w) 0 B = true) (hb : Int32.toInt64 b = B) (hn : b.toInt + 1 = n) : vp_in w n := by
  rw [mIn_32 (a := 0) (A := 0) (b := b) rfl hb] at h
  simp only [Bool.and_eq_true, Bool.not_eq_true', decide_eq_false_iff_not] at h
  obtain ⟨h1, h2⟩ := h
  rw [Int32.lt_iff_toInt_lt] at h1 h2
  have z : (0 : Int32).toInt = 0 := rfl
  rw [vp_in_iff]
  omega
