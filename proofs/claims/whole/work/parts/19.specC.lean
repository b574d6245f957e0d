/-! the keeper's calls: the answer, and the slots behind it -/
abbrev k_R : Type := Int32 × k_IJ
def cFold (nA nK : Nat) (w t : Int32) (s : k_IJ) : k_R := if kWithin w 0 39 && kWithin t 0 39 then (kFoldOf s.1 w, kSettle nA nK (kTurn s.1 w t, s.2)) else (-1002, s)
def cChanged (nA nK : Nat) (x : Int32) (s : k_IJ) : k_R := (kChangeV s.1 x, kSettle nA nK (kChange s.1 x, s.2))
def cRule (w v : Int32) (s : k_IJ) : k_R := if decide (w = 0) && kWithin v 0 10 then (s.1 0 0 6, (k_up s.1 0 0 (upd (s.1 0 0) 6 v), s.2)) else if decide (w = 1) && kWithin v 0 200 then (s.1 0 0 7, (k_up s.1 0 0 (upd (s.1 0 0) 7 v), s.2)) else (-1002, s)
def cBind (nA nK : Nat) (a t : Int32) (s : k_IJ) : k_R := match kAns nA a with
  | none => (-1001, s)
  | some i => if kWithin t 0 1023 then (if kKind s.1 i = 0 then (s.1 8 i 6, kSettle nA nK (k_up s.1 8 i (upd (s.1 8 i) 6 t), s.2)) else (-1003, s)) else (-1002, s)
def cConfirm (nA nK : Nat) (a : Int32) (s : k_IJ) : k_R := match kAns nA a with
  | none => (-1001, s)
  | some i => if kKind s.1 i = 0 then (k_b (kDoubted s.1 i), kSettle nA nK (k_up s.1 8 i (upd (s.1 8 i) 7 (s.1 3 0 2)), s.2)) else (-1003, s)
def cMove2 (nA nK : Nat) (i t : Nat) (s : k_IJ) : k_IJ := kSettle nA nK (kLead nA (s.1 8 i 0) (s.1 8 t 0) s.1, s.2)
def cMove (nA nK : Nat) (a b : Int32) (s : k_IJ) : k_R := match kAns nA a with
  | none => (-1001, s)
  | some i => match kEnd nA s.1 b with
    | none => (-1001, s)
    | some t => if kMoved s.1 i then (-1003, s) else if s.1 8 t 0 = s.1 8 i 0 then (-1003, s) else if s.1 8 t 12 &&& kBit (s.1 8 i 0) = 0 then ((cMove2 nA nK i t s).1 8 t 0, cMove2 nA nK i t s) else (-1003, s)
def cMelt2 (nA nK : Nat) (i j : Nat) (s : k_IJ) : k_IJ := kSettle nA nK (kLead nA (kTak i j s.1 8 j 0) (kTak i j s.1 8 i 0) (kTak i j s.1), kGatJ i j s.2)
def cMelt (nA nK : Nat) (a b : Int32) (s : k_IJ) : k_R := match kAns nA a with
  | none => (-1001, s)
  | some i => match kAns nA b with
    | none => (-1001, s)
    | some j => if a = b then (-1003, s) else if kMay s.1 i j then (1, cMelt2 nA nK i j s) else (-1003, s)
def cVote (nA : Nat) (a : Int32) (up : Bool) (s : k_IJ) : k_R := match kAns nA a with
  | none => (-1001, s)
  | some i => if kMoved s.1 i then (-1003, s) else (s.1 8 i 8 + (if up then 1 else -1), (k_up s.1 8 i (upd (s.1 8 i) 8 (s.1 8 i 8 + (if up then 1 else -1))), s.2))
def cTold (nA : Nat) (I : k_I) (a w : Int32) : Int32 := match kAns nA a with
  | none => -1001
  | some i => if w = 0 then kKind I i else if w = 1 then I 8 i 9 else if w = 2 then I 8 i 2 else if w = 3 then kSet I i (w - 3) else if w = 4 then kSet I i (w - 3) else if w = 5 then kSet I i (w - 3) else if w = 6 then I 8 i 6 else if w = 7 then k_b (kDoubted I i) else if w = 8 then I 8 i 8 else if w = 9 then kPartN I i else if w = 10 then kPartNow nA I i (w - 10) else if w = 11 then kPartNow nA I i (w - 10) else if w = 12 then kPartNow nA I i (w - 10) else if w = 13 then kPartNow nA I i (w - 10) else -1002
def cWords (nA : Nat) (J : k_J) (a : Int32) : Int64 := match kAns nA a with
  | none => -1001
  | some i => J 8 i 5
def cHolds (nA : Nat) (I : k_I) (a x y z : Int32) : Int32 := match kAns nA a with
  | none => -1001
  | some i => if kIsVal 0 x && (kIsVal 1 y && kIsVal 2 z) then k_b (kHas I i 0 x && (kHas I i 1 y && kHas I i 2 z) && !kMoved I i) else -1002
def cCount (nA nK : Nat) (I : k_I) (J : k_J) (w : Int32) : Int32 := if w = 0 then nI nA else if w = 1 then kKindN nA I (w - 1) else if w = 2 then kKindN nA I (w - 1) else if w = 3 then kKindN nA I (w - 1) else if w = 4 then kDoubtN nA I else if w = 5 then kQuarN nA I J else if w = 6 then nI nK else if w = 7 then kBC32 (kVain nA nK I J) else if w = 8 then (kHeapN nK I J (kVain nA nK I J)).2 else -1002
def kQIn (I : k_I) (J : k_J) (k w : Int32) (a : Nat) : Nat → Nat → Int32 → Int32 ⊕ Int32
  | 0, _, n => .inr n
  | d + 1, b, n => if kQuar I J a b then (if n = k then .inl (kQuarPart I a b w) else kQIn I J k w a d (b + 1) (n + 1)) else kQIn I J k w a d (b + 1) n
def kQOut (nA : Nat) (I : k_I) (J : k_J) (k w : Int32) : Nat → Nat → Int32 → Int32
  | 0, _, _ => -1
  | d + 1, a, n => match kQIn I J k w a (nA - (a + 1)) (a + 1) n with
    | .inl r => r
    | .inr n' => kQOut nA I J k w d (a + 1) n'
def cQuarrel (nA : Nat) (I : k_I) (J : k_J) (k w : Int32) : Int32 := if kWithin w 0 4 then kQOut nA I J k w nA 0 0 else -1002
def cFound (nA nK : Nat) (I : k_I) (J : k_J) (k i w : Int32) : Int32 := match kAns nK k with
  | none => -1001
  | some q => if kWithin w 0 2 then (match kFoundAt nA I J q i with
    | none => -1
    | some x => if w = 0 then I 8 x 0 else if w = 1 then kCost I J (J 11 q 2) q x else kQu I q x) else -1002
def cCost (nA nK : Nat) (I : k_I) (J : k_J) (k a : Int32) : Int32 := match kAns nK k with
  | none => -1001
  | some q => match kAns nA a with
    | none => -1001
    | some i => if kFit I q i then kCost I J (J 11 q 2) q i else -1003
def cAsked (nA nK : Nat) (I : k_I) (J : k_J) (k w : Int32) : Int32 := match kAns nK k with
  | none => -1001
  | some q => if w = 0 then (if kSome nA I J (J 11 q 2) q then 0 else 1) else if w = 1 then kHeapOf nK I J k (kVain nA nK I J) else if w = 2 then (if kSome nA I J (J 11 q 2) q then -1 else kHelp nA I J q) else if w = 3 then kFoundN nA I J q else -1002
