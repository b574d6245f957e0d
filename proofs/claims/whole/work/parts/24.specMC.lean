/-! the reference's calls -/
def mcFold (w t : Int32) (s : k_IJ) : k_R := if mIn (Int32.toInt64 w) 0 39 && mIn (Int32.toInt64 t) 0 39 then (s.1 20 0 w.toNatClampNeg, (mw 20 w.toNatClampNeg t s.1, s.2)) else (-1002, s)
def mcCh1 (I : k_I) : k_I := k_up I 13 0 (upd (I 13 0) 3 (I 13 0 3 + 1))
def mcCh2 (t : Nat) (I : k_I) : k_I := mw 22 t (I 13 0 3) I
def mcCh3 (t : Nat) (I : k_I) : k_I := mw 21 t (I 21 0 t + 1) I
def mcCh (t : Nat) (I : k_I) : k_I := mcCh3 t (mcCh2 t (mcCh1 I))
def mcChanged (x : Int32) (s : k_IJ) : k_R := if mIn (Int32.toInt64 x) 0 9 then (mcCh x.toNatClampNeg s.1 21 0 x.toNatClampNeg, (mcCh x.toNatClampNeg s.1, s.2)) else (-1001, s)
def mcRu1 (w v : Int32) (I : k_I) : k_I := k_up I 13 0 (upd (I 13 0) 4 (if w = 0 then v else I 13 0 4))
def mcRu2 (w v : Int32) (I : k_I) : k_I := k_up I 13 0 (upd (I 13 0) 5 (if w = 1 then v else I 13 0 5))
def mcRule (w v : Int32) (s : k_IJ) : k_R := if mIn (Int32.toInt64 w) 0 1 && mIn (Int32.toInt64 v) 0 (if w = 0 then 10 else 200) then ((if w = 0 then s.1 13 0 4 else s.1 13 0 5), (mcRu2 w v (mcRu1 w v s.1), s.2)) else (-1002, s)
def mcBind (mA : Nat) (a t : Int32) (s : k_IJ) : k_R := match kAns mA a with
  | none => (-1001, s)
  | some i => if mIn (Int32.toInt64 t) 0 1023 then (if mPl s.1 i then (s.1 32 0 i, (mw 32 i t s.1, s.2)) else (-1003, s)) else (-1002, s)
def mcCo1 (i : Nat) (I : k_I) : k_I := mw 33 i (I 13 0 3) I
def mcConfirm (E : Nat → Nat) (mA : Nat) (a : Int32) (s : k_IJ) : k_R := match kAns mA a with
  | none => (-1001, s)
  | some i => if mPl s.1 i then ((if mcCo1 i (mWork E mA s).1 43 0 i = 0 then 0 else 1), (mcCo1 i (mWork E mA s).1, (mWork E mA s).2)) else (-1003, s)
def mcMove (E : Nat → Nat) (mA : Nat) (a b : Int32) (s : k_IJ) : k_R := match kAns mA a with
  | none => (-1001, s)
  | some i => match kAns mA b with
    | none => (-1001, s)
    | some j => if s.1 28 0 i < 0 then (if nI (E j) = nI i then (-1003, s) else if mHP E mA (E j) s.1 39 0 i = 0 then (nI (E j), (mw 28 i (nI j) (mHP E mA (E j) s.1), s.2)) else (-1003, (mHP E mA (E j) s.1, s.2))) else (-1003, s)
def mLike (I : k_I) (i j : Nat) : Int32 := kLoop (fun k n => n + (if I 31 0 (3 * i + k) = I 31 0 (3 * j + k) then 1 else 0)) 3 0 (0 : Int32)
def mMay (I : k_I) (i j : Nat) : Bool := mPl I i && (mPl I j && (decide (I 30 0 i = I 30 0 j) && (decide (2 ≤ mLike I i j) || (mWith I i j || mWith I j i))))
def mMe1 (i j : Nat) (I : k_I) : k_I := mw 32 i (I 32 0 i ||| I 32 0 j) I
def mMe2 (i j : Nat) (I : k_I) : k_I := mw 33 i (if I 33 0 i ≤ I 33 0 j then I 33 0 i else I 33 0 j) I
def mMe3 (i j : Nat) (I : k_I) : k_I := mw 34 i (I 34 0 i + I 34 0 j) I
def mMe4 (i j : Nat) (I : k_I) : k_I := kLoop (fun k I => mw 31 (3 * i + k) (I 31 0 (3 * i + k) ||| I 31 0 (3 * j + k)) I) 3 0 I
def mMe (i j : Nat) (I : k_I) : k_I := mw 28 j (nI i) (mMe4 i j (mMe3 i j (mMe2 i j (mMe1 i j I))))
def mMeJ (i j : Nat) (J : k_J) : k_J := mwJ 29 i (J 29 0 i ||| J 29 0 j) J
def mcMelt (mA : Nat) (a b : Int32) (s : k_IJ) : k_R := match kAns mA a with
  | none => (-1001, s)
  | some i => match kAns mA b with
    | none => (-1001, s)
    | some j => if nI i = nI j then (-1003, s) else if mMay s.1 i j then (1, (mMe i j s.1, mMeJ i j s.2)) else (-1003, s)
def mcVote (mA : Nat) (a : Int32) (up : Bool) (s : k_IJ) : k_R := match kAns mA a with
  | none => (-1001, s)
  | some i => if s.1 28 0 i < 0 then (s.1 34 0 i + (if up then 1 else -1), (mw 34 i (s.1 34 0 i + (if up then 1 else -1)) s.1, s.2)) else (-1003, s)
def mPartE (E : Nat → Nat) (I : k_I) (i k : Nat) : Int32 := if I 35 0 (4 * i + k) < 0 then -1 else nI (mE E (I 35 0 (4 * i + k)))
def mToldV (E : Nat → Nat) (I : k_I) (i : Nat) (w : Int32) : Int32 := if w = 0 then (if I 28 0 i < 0 then I 27 0 i else 2) else if w = 1 then nI (E i) else if w = 2 then I 30 0 i else if w = 3 then I 41 0 (3 * i) else if w = 4 then I 41 0 (3 * i + 1) else if w = 5 then I 41 0 (3 * i + 2) else if w = 6 then I 42 0 i else if w = 7 then (if I 28 0 i < 0 then (if I 43 0 i = 0 then 0 else 1) else 0) else if w = 8 then I 34 0 i else if w = 9 then mPartN I i else if w = 10 then mPartE E I i 0 else if w = 11 then mPartE E I i 1 else if w = 12 then mPartE E I i 2 else mPartE E I i 3
def mcTold (E : Nat → Nat) (mA : Nat) (a w : Int32) (s : k_IJ) : k_R := match kAns mA a with
  | none => (-1001, s)
  | some i => if mIn (Int32.toInt64 w) 0 13 then (mToldV E (mWork E mA s).1 i w, mWork E mA s) else (-1002, s)
def mcWords (E : Nat → Nat) (mA : Nat) (a : Int32) (s : k_IJ) : Int64 × k_IJ := match kAns mA a with
  | none => (-1001, s)
  | some i => ((mWork E mA s).2 40 0 i, mWork E mA s)
def mHas (I : k_I) (j : Nat) (v : Int32) : Bool := decide (I 41 0 j >>> (v &&& 31) &&& 1 = 1)
def mcHolds (E : Nat → Nat) (mA : Nat) (a x y z : Int32) (s : k_IJ) : k_R := match kAns mA a with
  | none => (-1001, s)
  | some i => if mIsV 0 x && (mIsV 1 y && mIsV 2 z) then (k_b (decide ((mWork E mA s).1 28 0 i < 0) && (mHas (mWork E mA s).1 (3 * i) x && (mHas (mWork E mA s).1 (3 * i + 1) y && mHas (mWork E mA s).1 (3 * i + 2) z))), mWork E mA s) else (-1002, s)
theorem k_10_13 {w : Int32} (h : mIn (Int32.toInt64 w) 0 13 = true) (c : w.toInt < 0 ∨ 9 < w.toInt) : w = 10 ∨ w = 11 ∨ w = 12 ∨ w = 13 := by
  rw [mIn_32 (a := 0) (A := 0) (b := 13) (B := 13) rfl rfl] at h
  simp only [Bool.and_eq_true, Bool.not_eq_true', decide_eq_false_iff_not] at h
  obtain ⟨h1, h2⟩ := h
  rw [Int32.lt_iff_toInt_lt] at h1 h2
  have z : (0 : Int32).toInt = 0 := rfl
  have z3 : (13 : Int32).toInt = 13 := rfl
  have hx : w.toInt = 10 ∨ w.toInt = 11 ∨ w.toInt = 12 ∨ w.toInt = 13 := by omega
  rcases hx with e | e | e | e
  · exact Or.inl (Int32.toInt_inj.mp (e.trans (by decide)))
  · exact Or.inr (Or.inl (Int32.toInt_inj.mp (e.trans (by decide))))
  · exact Or.inr (Or.inr (Or.inl (Int32.toInt_inj.mp (e.trans (by decide)))))
  · exact Or.inr (Or.inr (Or.inr (Int32.toInt_inj.mp (e.trans (by decide)))))
theorem k_sw0_9 (x : Int32) : x = 0 ∨ x = 1 ∨ x = 2 ∨ x = 3 ∨ x = 4 ∨ x = 5 ∨ x = 6 ∨ x = 7 ∨ x = 8 ∨ x = 9 ∨ (x.toInt < 0 ∨ 9 < x.toInt) := by
  by_cases h : x.toInt < 0 ∨ 9 < x.toInt
  · exact Or.inr (Or.inr (Or.inr (Or.inr (Or.inr (Or.inr (Or.inr (Or.inr (Or.inr (Or.inr (h))))))))))
  · have hx : x.toInt = 0 ∨ x.toInt = 1 ∨ x.toInt = 2 ∨ x.toInt = 3 ∨ x.toInt = 4 ∨ x.toInt = 5 ∨ x.toInt = 6 ∨ x.toInt = 7 ∨ x.toInt = 8 ∨ x.toInt = 9 := by omega
    rcases hx with h | h | h | h | h | h | h | h | h | h
    · exact Or.inl (Int32.toInt_inj.mp (h.trans (by decide)))
    · exact Or.inr (Or.inl (Int32.toInt_inj.mp (h.trans (by decide))))
    · exact Or.inr (Or.inr (Or.inl (Int32.toInt_inj.mp (h.trans (by decide)))))
    · exact Or.inr (Or.inr (Or.inr (Or.inl (Int32.toInt_inj.mp (h.trans (by decide))))))
    · exact Or.inr (Or.inr (Or.inr (Or.inr (Or.inl (Int32.toInt_inj.mp (h.trans (by decide)))))))
    · exact Or.inr (Or.inr (Or.inr (Or.inr (Or.inr (Or.inl (Int32.toInt_inj.mp (h.trans (by decide))))))))
    · exact Or.inr (Or.inr (Or.inr (Or.inr (Or.inr (Or.inr (Or.inl (Int32.toInt_inj.mp (h.trans (by decide)))))))))
    · exact Or.inr (Or.inr (Or.inr (Or.inr (Or.inr (Or.inr (Or.inr (Or.inl (Int32.toInt_inj.mp (h.trans (by decide))))))))))
    · exact Or.inr (Or.inr (Or.inr (Or.inr (Or.inr (Or.inr (Or.inr (Or.inr (Or.inl (Int32.toInt_inj.mp (h.trans (by decide)))))))))))
    · exact Or.inr (Or.inr (Or.inr (Or.inr (Or.inr (Or.inr (Or.inr (Or.inr (Or.inr (Or.inl (Int32.toInt_inj.mp (h.trans (by decide))))))))))))
theorem k_sw0_2 (x : Int32) : x = 0 ∨ x = 1 ∨ x = 2 ∨ (x.toInt < 0 ∨ 2 < x.toInt) := by
  by_cases h : x.toInt < 0 ∨ 2 < x.toInt
  · exact Or.inr (Or.inr (Or.inr (h)))
  · have hx : x.toInt = 0 ∨ x.toInt = 1 ∨ x.toInt = 2 := by omega
    rcases hx with h | h | h
    · exact Or.inl (Int32.toInt_inj.mp (h.trans (by decide)))
    · exact Or.inr (Or.inl (Int32.toInt_inj.mp (h.trans (by decide))))
    · exact Or.inr (Or.inr (Or.inl (Int32.toInt_inj.mp (h.trans (by decide)))))
