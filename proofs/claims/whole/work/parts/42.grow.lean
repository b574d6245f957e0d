/-! the keeper's new answers and asks -/
def kIsA (nA : Nat) (a : Int32) : Bool := !decide (a < 0) && !decide (nI nA ≤ a)
def kAn8 (n kd st : Int32) : Nat → Int32 := fun k => if k = 0 then n else if k = 1 then kd else if k = 2 then st else if k = 9 then n else 0
def kNew (n : Nat) (kd st : Int32) (I : k_I) : k_I := k_up (k_up (k_up I 8 n (kAn8 (nI n) kd st)) 9 n (fun _ => 0)) 10 n (k_fil (fun _ => -1) 4)
def kNewJ (n : Nat) (J : k_J) : k_J := k_up J 8 n (fun _ => 0)
def kAskV (x y z : Int32) : Nat → Int32 := k_fil (fun j => if nI j = 0 then x else if nI j = 1 then y else z) 3
def kAsk9 (n : Nat) (x y z : Int32) (I : k_I) : k_I := k_up I 12 n (kAskV x y z)
def kAsk9J (n : Nat) (w : Int64) (J : k_J) : k_J := k_up J 11 n (fun k => if k = 0 then w else 0)
theorem k_grow8 {G : k_G} {ad : Nat → Nat → Nat} {n nK : Nat} {I : k_I} {J : k_J} {H H1 : Heap} {q0 q1 q2 : Nat} {kd st : Int32} (hW : Wd G ad n nK I J H) (hq : ∀ c i, i < k_n n nK c → ad c i ≠ q0) (hG : k_A G q0) (hGs : G.2.2.1 ≤ H.size) (h6 : I 6 0 n = 0)
    (hN : k_Nw G H q0 [(q0, .inr (0, [.int (nI n), .int kd, .int st, .ref q1, .ref q2, .long 0, .int 0, .int 0, .int 0, .int (nI n), .long 0, .int 0, .int 0])), (q1, k_ar 3 (G.2.1 0) (fun _ => 0)), (q2, k_ar 4 (G.2.1 0) (k_fil (fun _ => (-1)) 4))] H1) : ∃ ad' : Nat → Nat → Nat, (∀ c i, i < k_n n nK c → ad' c i = ad c i) ∧ ad' 8 n = q0 ∧ Wd G ad' (n + 1) nK (kNew n kd st I) (kNewJ n J) H1 := by
  have hD := hN.2.1.1
  have d01 : q0 ≠ q1 := fun h => absurd (hD 0 1 _ _ rfl rfl h) (by decide)
  have d02 : q0 ≠ q2 := fun h => absurd (hD 0 2 _ _ rfl rfl h) (by decide)
  have d12 : q1 ≠ q2 := fun h => absurd (hD 1 2 _ _ rfl rfl h) (by decide)
  have ho : ∀ c i, i < k_n n nK c → k_ad3 ad n q0 q1 q2 c i = ad c i := fun c i hi => by
    unfold k_n at hi
    split at hi <;> first | (simp [k_ad3]; done) | (simp [k_ad3, Nat.ne_of_lt hi]; done) | exact absurd hi (Nat.not_lt_zero _)
  refine ⟨k_ad3 ad n q0 q1 q2, ho, by simp [k_ad3], hW.grow hq hG hGs hN (fun c i hi => ⟨ho c i hi, ?_⟩) (fun c i hi => ?_) (fun c i c' i' hi hj hi' hj' he => ?_)⟩
  · have h6f : (fun j => if I 6 0 j = 0 then none else some (k_ad3 ad n q0 q1 q2 8 j)) = (fun j => if I 6 0 j = 0 then none else some (ad 8 j)) := by
      funext j
      by_cases hj : j = n
      · subst hj; simp [h6]
      · simp [k_ad3, hj]
    have h7f : ∀ j, k_ad3 ad n q0 q1 q2 11 j = ad 11 j := fun j => by simp [k_ad3]
    unfold k_n at hi
    split at hi
    all_goals first
      | exact absurd hi (Nat.not_lt_zero _)
      | (have hi0 : i = 0 := by omega
         subst hi0
         simp [k_ent, kNew, kNewJ, k_up, k_ad3, h6f]
         done)
      | (have hi0 : i = 0 := by omega
         subst hi0
         show k_ent G (k_ad3 ad n q0 q1 q2) 6 0 (I 6 0) (J 6 0) = _
         unfold k_ent
         simp only [h6f]
         done)
      | (have hne : i ≠ n := Nat.ne_of_lt hi
         simp [k_ent, kNew, kNewJ, k_up, k_ad3, hne]
         done)
      | (simp [k_ent, kNew, kNewJ, k_up, k_ad3]; done)
  · by_cases hj : i < k_n n nK c
    · exact Or.inl hj
    · right
      have : (c = 8 ∨ c = 9 ∨ c = 10) ∧ i = n := by
        unfold k_n at hi hj
        split at hi <;> first | (simp at hj; omega) | (simp at hj; simp; omega) | exact absurd hi hj
      obtain ⟨h | h | h, rfl⟩ := this <;> subst h
      · exact ⟨0, by simp [k_ent, kNew, kNewJ, k_up, k_ad3, kAn8]⟩
      · exact ⟨1, by simp [k_ent, kNew, kNewJ, k_up, k_ad3]⟩
      · exact ⟨2, by simp [k_ent, kNew, kNewJ, k_up, k_ad3]⟩
  · have hh : ∀ c i, i < k_n (n + 1) nK c → ¬ i < k_n n nK c → (c = 8 ∨ c = 9 ∨ c = 10) ∧ i = n := fun c i hi hj => by
      unfold k_n at hi hj
      split at hi <;> first | (simp at hj; omega) | (simp at hj; simp; omega) | exact absurd hi hj
    obtain ⟨h1, rfl⟩ := hh c i hi hj
    obtain ⟨h2, rfl⟩ := hh c' i' hi' hj'
    refine ⟨?_, rfl⟩
    rcases h1 with rfl | rfl | rfl <;> rcases h2 with rfl | rfl | rfl <;> first | rfl | (simp [k_ad3] at he; first | exact absurd he d01 | exact absurd he d02 | exact absurd he d12 | exact absurd he.symm d01 | exact absurd he.symm d02 | exact absurd he.symm d12)
theorem k_grow11 {G : k_G} {ad : Nat → Nat → Nat} {nA n : Nat} {I : k_I} {J : k_J} {H H1 : Heap} {q0 q1 : Nat} {w : Int64} {x y z : Int32} (hW : Wd G ad nA n I J H) (hq : ∀ c i, i < k_n nA n c → ad c i ≠ q0) (hG : k_A G q0) (hGs : G.2.2.1 ≤ H.size) (h7 : I 7 0 n = 0)
    (hN : k_Nw G H q0 [(q0, .inr (1, [.long w, .ref q1, .long 0])), (q1, k_ar 3 (G.2.1 0) (k_fil (fun j => if nI j = 0 then x else if nI j = 1 then y else z) 3))] H1) : ∃ ad' : Nat → Nat → Nat, (∀ c i, i < k_n nA n c → ad' c i = ad c i) ∧ ad' 11 n = q0 ∧ Wd G ad' nA (n + 1) (kAsk9 n x y z I) (kAsk9J n w J) H1 := by
  have hD := hN.2.1.1
  have d01 : q0 ≠ q1 := fun h => absurd (hD 0 1 _ _ rfl rfl h) (by decide)
  have ho : ∀ c i, i < k_n nA n c → k_ad2 ad n q0 q1 c i = ad c i := fun c i hi => by
    unfold k_n at hi
    split at hi <;> first | (simp [k_ad2]; done) | (simp [k_ad2, Nat.ne_of_lt hi]; done) | exact absurd hi (Nat.not_lt_zero _)
  refine ⟨k_ad2 ad n q0 q1, ho, by simp [k_ad2], hW.grow hq hG hGs hN (fun c i hi => ⟨ho c i hi, ?_⟩) (fun c i hi => ?_) (fun c i c' i' hi hj hi' hj' he => ?_)⟩
  · have h7f : (fun j => if I 7 0 j = 0 then none else some (k_ad2 ad n q0 q1 11 j)) = (fun j => if I 7 0 j = 0 then none else some (ad 11 j)) := by
      funext j
      by_cases hj : j = n
      · subst hj; simp [h7]
      · simp [k_ad2, hj]
    unfold k_n at hi
    split at hi
    all_goals first
      | exact absurd hi (Nat.not_lt_zero _)
      | (have hi0 : i = 0 := by omega
         subst hi0
         simp [k_ent, kAsk9, kAsk9J, k_up, k_ad2]
         done)
      | (have hi0 : i = 0 := by omega
         subst hi0
         show k_ent G (k_ad2 ad n q0 q1) 7 0 (I 7 0) (J 7 0) = _
         unfold k_ent
         simp only [h7f]
         done)
      | (have hne : i ≠ n := Nat.ne_of_lt hi
         simp [k_ent, kAsk9, kAsk9J, k_up, k_ad2, hne]
         done)
      | (simp [k_ent, kAsk9, kAsk9J, k_up, k_ad2]; done)
  · by_cases hj : i < k_n nA n c
    · exact Or.inl hj
    · right
      have : (c = 11 ∨ c = 12) ∧ i = n := by
        unfold k_n at hi hj
        split at hi <;> first | (simp at hj; omega) | (simp at hj; simp; omega) | exact absurd hi hj
      obtain ⟨h | h, rfl⟩ := this <;> subst h
      · exact ⟨0, by simp [k_ent, kAsk9, kAsk9J, k_up, k_ad2]⟩
      · exact ⟨1, by simp [k_ent, kAsk9, kAsk9J, k_up, k_ad2, kAskV]⟩
  · have hh : ∀ c i, i < k_n nA (n + 1) c → ¬ i < k_n nA n c → (c = 11 ∨ c = 12) ∧ i = n := fun c i hi hj => by
      unfold k_n at hi hj
      split at hi <;> first | (simp at hj; omega) | (simp at hj; simp; omega) | exact absurd hi hj
    obtain ⟨h1, rfl⟩ := hh c i hi hj
    obtain ⟨h2, rfl⟩ := hh c' i' hi' hj'
    refine ⟨?_, rfl⟩
    rcases h1 with rfl | rfl <;> rcases h2 with rfl | rfl <;> first | rfl | (simp [k_ad2] at he; first | exact absurd he d01 | exact absurd he.symm d01)
theorem Wd.to3 {G : k_G} {ad : Nat → Nat → Nat} {nA nK nA' nK' : Nat} {I I' : k_I} {J J' : k_J} {H : Heap} (h : Wd G ad nA nK I J H) (a : nA = nA') (b : nK = nK') (e1 : I = I') (e2 : J = J') : Wd G ad nA' nK' I' J' H := by subst a; subst b; subst e1; subst e2; exact h
abbrev k_R3 : Type := Int32 × Nat × k_IJ
def kKeep1 (n : Nat) (I : k_I) : k_I := k_up I 6 0 (upd (I 6 0) n 1)
def kKeep2 (n : Nat) (I : k_I) : k_I := k_up I 0 0 (upd (I 0 0) 4 (nI (n + 1)))
def kKeep (n : Nat) (I : k_I) : k_I := kKeep2 n (kKeep1 n I)
def kAns1 (n : Nat) (I : k_I) : k_I := k_up I 8 n (upd (I 8 n) 7 (I 3 0 2))
def kAnsJ (n : Nat) (x : Int64) (J : k_J) : k_J := k_up J 8 n (vp_updL (J 8 n) 5 x)
def cAnswer2 (n nK : Nat) (x : Int64) (st a b c : Int32) (s : k_IJ) : k_IJ := kSettle (n + 1) nK (kKeep n (kAns1 n (kPutS n a b c (kNew n 0 st s.1))), kAnsJ n x (kNewJ n s.2))
def cAnswerOk (x : Int64) (st a b c : Int32) : Bool := kIsSW x && (kWithin st 0 9999 && (kIsSV 0 a && (kIsSV 1 b && kIsSV 2 c)))
def cAnswer (n nK : Nat) (x : Int64) (st a b c : Int32) (s : k_IJ) : k_R3 := if cAnswerOk x st a b c then (if nI n < 24 then ((cAnswer2 n nK x st a b c s).1 8 n 0, n + 1, cAnswer2 n nK x st a b c s) else (-1004, n, s)) else (-1002, n, s)
def kJoinN (c d : Int32) : Int32 := if c = -1 then 2 else if d = -1 then 3 else 4
def kJoinX (a b c d : Int32) : Int32 := kBit a ||| kBit b ||| kBit c ||| kBit d
def cJoinOk1 (n : Nat) (a b c d : Int32) : Bool := kIsA n a && (kIsA n b && ((decide (c = -1) || kIsA n c) && (decide (d = -1) || kIsA n d)))
def cJoinOk2 (n : Nat) (I : k_I) (a b c d : Int32) : Bool := (!decide (c = -1) || decide (d = -1)) && (decide (kBC32 (kJoinX a b c d) = kJoinN c d) && kAllPlain n I (kJoinX a b c d))
def cJoin2 (n nK : Nat) (a b c d : Int32) (s : k_IJ) : k_IJ := kSettle (n + 1) nK (kKeep n (kPutP n a b c d (kNew n 1 (-1) s.1)), kNewJ n s.2)
def cJoin (n nK : Nat) (a b c d : Int32) (s : k_IJ) : k_R3 := if cJoinOk1 n a b c d then (if cJoinOk2 n s.1 a b c d then (if nI n < 24 then ((cJoin2 n nK a b c d s).1 8 n 0, n + 1, cJoin2 n nK a b c d s) else (-1004, n, s)) else (-1003, n, s)) else (-1001, n, s)
def kAsk1 (n : Nat) (I : k_I) : k_I := k_up I 7 0 (upd (I 7 0) n 1)
def kAsk2 (n : Nat) (I : k_I) : k_I := k_up I 0 0 (upd (I 0 0) 5 (nI (n + 1)))
def cAsk2 (nA n : Nat) (w : Int64) (x y z : Int32) (s : k_IJ) : k_IJ := kSettle nA (n + 1) (kAsk2 n (kAsk1 n (kAsk9 n x y z s.1)), kAsk9J n w s.2)
def cAskOk (w : Int64) (x y z : Int32) : Bool := kIsSW w && (kIsValN 0 x && (kIsValN 1 y && kIsValN 2 z))
def cAsk (nA n : Nat) (w : Int64) (x y z : Int32) (s : k_IJ) : k_R3 := if cAskOk w x y z then (if nI n < 30 then (nI n, n + 1, cAsk2 nA n w x y z s) else (-1004, n, s)) else (-1002, n, s)
