/-! what the keeper's methods answer, on the slots (kinds 0 .. 12) -/
theorem kLoop_stop {α : Type} {f : Nat → α → α} {x : α} (h : ∀ k, f k x = x) : ∀ d i, kLoop f d i x = x
  | 0, _ => rfl
  | d + 1, i => (congrArg (kLoop f d (i + 1)) (h i)).trans (kLoop_stop h d (i + 1))
def kBit (n : Int32) : Int32 := if n < 0 then 0 else if 30 < n then 0 else 1 <<< (n &&& 31)
def kWithin (v a b : Int32) : Bool := !decide (v < a) && !decide (b < v)
def kIsSW (x : Int64) : Bool := !decide (x < 0) && !decide (1099511627776 ≤ x)
def kAllV (a : Int32) : Int32 := if a < 0 then 0 else if 3 ≤ a then 0 else k_allv a.toNatClampNeg
def kIsSV (a x : Int32) : Bool := !decide (x ≤ 0) && !decide (kAllV a < x)
def kIsVal (a v : Int32) : Bool := !decide (kAllV a &&& kBit v = 0)
def kIsValN (a v : Int32) : Bool := decide (v = -1) || kIsVal a v
def kLeastF (x : Int32) : Nat → Nat → Int32
  | 0, _ => -1
  | d + 1, i => if x &&& kBit (nI i) = 0 then kLeastF x d (i + 1) else nI i
def kLeast (x : Int32) : Int32 := kLeastF x 31 0
def kFoldStep (f : Nat → Int32) (x : Int64) (w : Nat) (r : Int64) : Int64 := if x &&& (1 <<< (Int32.toInt64 (nI w) &&& 63)) = 0 then r else r ||| (1 <<< (Int32.toInt64 (f w) &&& 63))
def kFold (f : Nat → Int32) (x : Int64) : Int64 := kLoop (kFoldStep f x) 40 0 0
def kFoldOf (I : k_I) (w : Int32) : Int32 := if w < 0 then -1 else if 40 ≤ w then -1 else I 2 0 w.toNatClampNeg
def kTurn (I : k_I) (w t : Int32) : k_I := if w < 0 then I else if 40 ≤ w then I else k_up I 2 0 (upd (I 2 0) w.toNatClampNeg t)
def kChg (I : k_I) (x t : Int32) : Bool := kAny (fun k => !decide (x &&& kBit (nI k) = 0) && !decide (I 5 0 k ≤ t)) 10 0
def kMoved (I : k_I) (i : Nat) : Bool := !decide (I 8 i 9 = I 8 i 0)
def kKind (I : k_I) (i : Nat) : Int32 := if kMoved I i then 2 else I 8 i 1
def kDoubted (I : k_I) (i : Nat) : Bool := !decide (I 8 i 11 = 0) && !kMoved I i
def kSet (I : k_I) (i : Nat) (a : Int32) : Int32 := if a < 0 then 0 else if 3 ≤ a then 0 else I 9 i a.toNatClampNeg
def kHas (I : k_I) (i : Nat) (a v : Int32) : Bool := !decide (kSet I i a &&& kBit v = 0)
def kPart (I : k_I) (i : Nat) (k : Int32) : Int32 := if k < 0 then -1 else if 4 ≤ k then -1 else I 10 i k.toNatClampNeg
def kPartN (I : k_I) (i : Nat) : Int32 := kLoop (fun k n => if I 10 i k = -1 then n else n + 1) 4 0 0
def kVal (I : k_I) (q : Nat) (a : Int32) : Int32 := if a < 0 then -1 else if 3 ≤ a then -1 else I 12 q a.toNatClampNeg
def kEnd (nA : Nat) (I : k_I) (a : Int32) : Option Nat := match kAns nA a with
  | none => none
  | some i => kAns nA (I 8 i 9)
theorem kEnd_b {n i : Nat} {I : k_I} {a : Int32} (h : kEnd n I a = some i) : i < n := by
  unfold kEnd at h
  split at h
  · cases h
  · exact kAns_b h
def kPartNow (nA : Nat) (I : k_I) (i : Nat) (k : Int32) : Int32 := match kEnd nA I (kPart I i k) with
  | none => -1
  | some j => I 8 j 0
def kFindI (q : Nat → Bool) : Nat → Nat → Int32
  | 0, _ => -1
  | d + 1, i => if q i then nI i else kFindI q d (i + 1)
/-! the JDK's bit counts, as they stand -/
def kS32 (x y : Int32) : Int32 := (x.toUInt32 >>> (Int32.toUInt32 y &&& Int32.toUInt32 31)).toInt32
def kS64 (x : Int64) (y : Int32) : Int64 := (x.toUInt64 >>> ((Int32.toInt64 y).toUInt64 &&& Int64.toUInt64 63)).toInt64
def kBa (x : Int32) : Int32 := x - (kS32 x 1 &&& 1431655765)
def kBb (x : Int32) : Int32 := (x &&& 858993459) + (kS32 x 2 &&& 858993459)
def kBc (x : Int32) : Int32 := (x + kS32 x 4) &&& 252645135
def kBd (x : Int32) : Int32 := x + kS32 x 8
def kBe (x : Int32) : Int32 := x + kS32 x 16
def kBC32 (x : Int32) : Int32 := kBe (kBd (kBc (kBb (kBa x)))) &&& 63
def kLa (x : Int64) : Int64 := x - (kS64 x 1 &&& 6148914691236517205)
def kLb (x : Int64) : Int64 := (x &&& 3689348814741910323) + (kS64 x 2 &&& 3689348814741910323)
def kLc (x : Int64) : Int64 := (x + kS64 x 4) &&& 1085102592571150095
def kLd (x : Int64) : Int64 := x + kS64 x 8
def kLe (x : Int64) : Int64 := x + kS64 x 16
def kLf (x : Int64) : Int64 := x + kS64 x 32
def kBC64 (x : Int64) : Int32 := Int64.toInt32 (kLf (kLe (kLd (kLc (kLb (kLa x)))))) &&& 127
def kFar (x y : Int64) : Int32 := kBC64 (x ^^^ y)
/-! asks and answers -/
def kFit1 (I : k_I) (q i : Nat) (a : Nat) : Bool := !decide (kSet I i (nI a) = 0) && (decide (kVal I q (nI a) = -1) || kHas I i (nI a) (kVal I q (nI a)))
def kFit (I : k_I) (q i : Nat) : Bool := !kMoved I i && !kAny (fun a => !kFit1 I q i a) 3 0
def kQu1 (I : k_I) (q i : Nat) (a : Nat) : Bool := decide (kVal I q (nI a) = -1) && !decide (kSet I i (nI a) = kAllV (nI a))
def kQu (I : k_I) (q i : Nat) : Int32 := kFindI (kQu1 I q i) 3 0
def kMin9 (v : Int32) : Int32 := if v < 9 then v else 9
def kMax9 (v : Int32) : Int32 := if -9 < v then v else -9
def kCost (I : k_I) (J : k_J) (f : Int64) (q i : Nat) : Int32 := 10 * kBC64 (f &&& (J 8 i 10 ^^^ -1)) + 3 * kBC64 (J 8 i 10 &&& (f ^^^ -1)) + (if kDoubted I i then 15 else 0) + (if kQu I q i = -1 then 0 else 5) - kMax9 (kMin9 (I 8 i 8))
def kFound (I : k_I) (J : k_J) (f : Int64) (q i : Nat) : Bool := kFit I q i && !decide (I 0 0 7 < kCost I J f q i)
def kSome (nA : Nat) (I : k_I) (J : k_J) (f : Int64) (q : Nat) : Bool := kAny (fun a => kFound I J f q a) nA 0
def kFoundN (nA : Nat) (I : k_I) (J : k_J) (q : Nat) : Int32 := kLoop (fun a n => if kFound I J (J 11 q 2) q a then n + 1 else n) nA 0 (0 : Int32)
def kBet1 (I : k_I) (J : k_J) (q i b : Nat) : Bool := kFound I J (J 11 q 2) q b && (decide (kCost I J (J 11 q 2) q b < kCost I J (J 11 q 2) q i) || decide (kCost I J (J 11 q 2) q b = kCost I J (J 11 q 2) q i) && !decide (I 8 i 0 ≤ I 8 b 0))
def kBetter (nA : Nat) (I : k_I) (J : k_J) (q i : Nat) : Int32 := kLoop (fun b n => if kBet1 I J q i b then n + 1 else n) nA 0 (0 : Int32)
def kFoundAt (nA : Nat) (I : k_I) (J : k_J) (q : Nat) (k : Int32) : Option Nat := kFind (fun a => kFound I J (J 11 q 2) q a && decide (kBetter nA I J q a = k)) nA 0
theorem kFind_b {q : Nat → Bool} : ∀ {d i k : Nat}, kFind q d i = some k → k < i + d
  | 0, _, _, h => by cases h
  | d + 1, i, k, h => by
    unfold kFind at h
    split at h
    · cases h; omega
    · have := kFind_b h; omega
theorem kFoundAt_b {nA : Nat} {I : k_I} {J : k_J} {q : Nat} {k : Int32} {i : Nat} (h : kFoundAt nA I J q k = some i) : i < nA := by
  have := kFind_b h; omega
def kHelp (nA : Nat) (I : k_I) (J : k_J) (q : Nat) : Int32 := kFindI (fun w => kSome nA I J (kFold (I 2 0) (J 11 q 0 ||| (1 <<< (Int32.toInt64 (nI w) &&& 63)))) q) 40 0
def kVain (nA nK : Nat) (I : k_I) (J : k_J) : Int32 := kLoop (fun k v => if kSome nA I J (J 11 k 2) k then v else v ||| kBit (nI k)) nK 0 (0 : Int32)
def kNear1 (nK : Nat) (I : k_I) (J : k_J) (q : Nat) (h : Int32) : Bool := kAny (fun k => !decide (h &&& kBit (nI k) = 0) && !decide (I 0 0 6 < kFar (J 11 q 2) (J 11 k 2))) nK 0
def kHeapStep (nK : Nat) (I : k_I) (J : k_J) (v : Int32) (k : Nat) (h : Int32) : Int32 := if v &&& (h ^^^ -1) &&& kBit (nI k) = 0 then h else if kNear1 nK I J k h then h ||| kBit (nI k) else h
def kHeapFrom (nK : Nat) (I : k_I) (J : k_J) (first : Int32) (v : Int32) : Int32 := kLoop (fun _ h => kLoop (kHeapStep nK I J v) nK 0 h) 30 0 (kBit first)
def kHeapN (nK : Nat) (I : k_I) (J : k_J) (v : Int32) : Int32 × Int32 := kLoop (fun k (s : Int32 × Int32) => if s.1 &&& kBit (nI k) = 0 then s else (s.1 &&& (kHeapFrom nK I J (nI k) v ^^^ -1), s.2 + 1)) nK 0 (v, 0)
def kHeapOfF (nK : Nat) (I : k_I) (J : k_J) (q v : Int32) : Nat → Nat → Int32 → Int32 → Int32
  | 0, _, _, _ => -1
  | d + 1, k, left, n => if left &&& kBit (nI k) = 0 then kHeapOfF nK I J q v d (k + 1) left n else if kHeapFrom nK I J (nI k) v &&& kBit q = 0 then kHeapOfF nK I J q v d (k + 1) (left &&& (kHeapFrom nK I J (nI k) v ^^^ -1)) (n + 1) else n
def kHeapOf (nK : Nat) (I : k_I) (J : k_J) (q v : Int32) : Int32 := kHeapOfF nK I J q v nK 0 v 0
/-! counts, quarrels -/
def kKindN (nA : Nat) (I : k_I) (k : Int32) : Int32 := kLoop (fun a n => if kKind I a = k then n + 1 else n) nA 0 (0 : Int32)
def kDoubtN (nA : Nat) (I : k_I) : Int32 := kLoop (fun a n => if kDoubted I a then n + 1 else n) nA 0 (0 : Int32)
def kQuar (I : k_I) (J : k_J) (i j : Nat) : Bool := decide (kKind I i = 0) && decide (kKind I j = 0) && !decide (I 8 i 2 = I 8 j 2) && !kAny (fun a => decide (kSet I i (nI a) &&& kSet I j (nI a) = 0)) 3 0 && !decide (I 0 0 6 < kFar (J 8 i 10) (J 8 j 10))
def kQuarRow (nA : Nat) (I : k_I) (J : k_J) (a : Nat) (n : Int32) : Int32 := kLoop (fun b n => if kQuar I J a b then n + 1 else n) (nA - (a + 1)) (a + 1) n
def kQuarN (nA : Nat) (I : k_I) (J : k_J) : Int32 := kLoop (fun a n => kQuarRow nA I J a n) nA 0 (0 : Int32)
def kQuarPart (I : k_I) (a b : Nat) (w : Int32) : Int32 := if w = 0 then nI a else if w = 1 then nI b else kLeast (kSet I a (w - 2) &&& kSet I b (w - 2))
def kAllPlain (nA : Nat) (I : k_I) (x : Int32) : Bool := !kAny (fun a => !decide (x &&& kBit (nI a) = 0) && !decide (kKind I a = 0)) nA 0
def kLike (I : k_I) (i j : Nat) : Int32 := kLoop (fun a n => if kSet I i (nI a) = kSet I j (nI a) then n + 1 else n) 3 0 (0 : Int32)
def kInside (I : k_I) (i j : Nat) : Bool := !kAny (fun a => !decide (kSet I i (nI a) &&& (kSet I j (nI a) ^^^ -1) = 0)) 3 0
def kMay (I : k_I) (i j : Nat) : Bool := decide (kKind I i = 0) && decide (kKind I j = 0) && decide (I 8 i 2 = I 8 j 2) && (!decide (kLike I i j < 2) || kInside I j i || kInside I i j)
theorem kAns_x {n N : Nat} {a : Int32} (h : n ≤ N) (hN : N < 2 ^ 31) (c : ¬ nI n ≤ a) (d : nI N ≤ a) : False := by
  rw [Int32.le_iff_toInt_le, nI_toInt (by omega)] at c
  rw [Int32.le_iff_toInt_le, nI_toInt hN] at d
  omega
