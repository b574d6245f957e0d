/-! the reference's new answers and asks -/
def mFr1 (n : Nat) (k : Int32) (I : k_I) : k_I := mw 30 n (-1) (mw 28 n (-1) (mw 27 n k I))
def mFr2 (n : Nat) (I : k_I) : k_I := mw 33 n (I 13 0 3) I
def mFr3 (n : Nat) (I : k_I) : k_I := mw 34 n 0 (mFr2 n (mw 32 n 0 I))
def mFr4 (n : Nat) (I : k_I) : k_I := kLoop (fun k I => mw 35 (4 * n + k) (-1) I) 4 0 I
def mFr5 (I : k_I) : k_I := k_up I 13 0 (upd (I 13 0) 6 (I 13 0 6 + 1))
def mFr (n : Nat) (k : Int32) (I : k_I) : k_I := mFr5 (mFr4 n (mFr3 n (mFr1 n k I)))
def mFrJ (n : Nat) (J : k_J) : k_J := mwJ 29 n 0 J
def mAnI (n : Nat) (st x y z : Int32) (I : k_I) : k_I := mw 31 (3 * n + 2) z (mw 31 (3 * n + 1) y (mw 31 (3 * n) x (mw 30 n st (mFr n 0 I))))
def mAnJ (n : Nat) (w : Int64) (J : k_J) : k_J := mwJ 29 n w (mFrJ n J)
def mcAnswer (mA : Nat) (w : Int64) (st x y z : Int32) (s : k_IJ) : k_R := if mIn w 0 1099511627775 && (mIn (Int32.toInt64 st) 0 9999 && (mIn (Int32.toInt64 x) 1 255 && (mIn (Int32.toInt64 y) 1 1023 && mIn (Int32.toInt64 z) 1 15))) then (if nI mA = 24 then (-1004, s) else (nI mA, (mAnI mA st x y z s.1, mAnJ mA w s.2))) else (-1002, s)
def mPlX (mA : Nat) (I : k_I) (a : Int32) : Bool := match kAns mA a with
  | none => true
  | some i => mPl I i
def mUnl (a b c d : Int32) : Bool := !decide (a = b) && (!decide (a = c) && (!decide (b = c) && (!decide (a = d) && (!decide (b = d) && (!decide (c = d) || decide (c < 0))))))
def mJoI (n : Nat) (a b c d : Int32) (I : k_I) : k_I := mw 35 (4 * n + 3) d (mw 35 (4 * n + 2) c (mw 35 (4 * n + 1) b (mw 35 (4 * n) a (mFr n 1 I))))
def mcJoin (mA : Nat) (a b c d : Int32) (s : k_IJ) : k_R := if mIs mA a && (mIs mA b && ((decide (c = -1) || mIs mA c) && (decide (d = -1) || mIs mA d))) then (if (mPlX mA s.1 a && (mPlX mA s.1 b && (mPlX mA s.1 c && mPlX mA s.1 d))) && (mUnl a b c d && !(decide (c < 0) && !decide (d < 0))) then (if nI mA = 24 then (-1004, s) else (nI mA, (mJoI mA a b c d s.1, mFrJ mA s.2))) else (-1003, s)) else (-1001, s)
def mAkI (q : Nat) (x y z : Int32) (I : k_I) : k_I := mw 38 (3 * q + 2) z (mw 38 (3 * q + 1) y (mw 38 (3 * q) x I))
def mAk5 (q : Nat) (I : k_I) : k_I := k_up I 13 0 (upd (I 13 0) 16 (nI (q + 1)))
def mGood (x y z : Int32) : Bool := (decide (x = -1) || mIsV 0 x) && ((decide (y = -1) || mIsV 1 y) && (decide (z = -1) || mIsV 2 z))
def mcAsk (mK : Nat) (w : Int64) (x y z : Int32) (s : k_IJ) : k_R := if mIn w 0 1099511627775 && mGood x y z then (if nI mK = 30 then (-1004, s) else (mAk5 mK (mAkI mK x y z s.1) 13 0 16 - 1, (mAk5 mK (mAkI mK x y z s.1), mwJ 37 mK w s.2))) else (-1002, s)
theorem nI_full {n N : Nat} (hn : n ≤ N) (hN : N < 2 ^ 31) {x : Int32} (hx : x = nI N) (c : ¬ nI n = x) : n < N := by
  rcases Nat.lt_or_ge n N with h | h
  · exact h
  · exact absurd (by rw [hx, show n = N by omega]) c
