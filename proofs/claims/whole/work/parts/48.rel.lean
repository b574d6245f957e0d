/-! what ties the keeper to the reference (RR): begun, and kept by each call -/
def k_St {α : Type} (RR : Nat → Nat → (Nat → Nat) → k_I → k_J → Prop) (nA nK : Nat) (E : Nat → Nat) (s1 : k_IJ) (cv mv : α) (nA' nK' : Nat) (s2 : k_IJ) : Prop := m_S nA nK E s1.1 ∧ cv = mv ∧ ∃ E', RR nA' nK' E' s2.1 s2.2
structure k_Rel (RR : Nat → Nat → (Nat → Nat) → k_I → k_J → Prop) : Prop where
  ks : ∀ {nA nK E I J}, RR nA nK E I J → k_S nA nK I
  z6 : ∀ {nA nK E I J}, RR nA nK E I J → I 6 0 nA = 0
  z7 : ∀ {nA nK E I J}, RR nA nK E I J → I 7 0 nK = 0
  fold : ∀ {nA nK E I J} (a : Int32) (b : Int32), RR nA nK E I J → k_St RR nA nK E (cFold nA nK a b (I, J)).2 (cFold nA nK a b (I, J)).1 (mcFold a b (cFold nA nK a b (I, J)).2).1 nA nK (mcFold a b (cFold nA nK a b (I, J)).2).2
  changed : ∀ {nA nK E I J} (a : Int32), RR nA nK E I J → k_St RR nA nK E (cChanged nA nK a (I, J)).2 (cChanged nA nK a (I, J)).1 (mcChanged a (cChanged nA nK a (I, J)).2).1 nA nK (mcChanged a (cChanged nA nK a (I, J)).2).2
  rule : ∀ {nA nK E I J} (a : Int32) (b : Int32), RR nA nK E I J → k_St RR nA nK E (cRule a b (I, J)).2 (cRule a b (I, J)).1 (mcRule a b (cRule a b (I, J)).2).1 nA nK (mcRule a b (cRule a b (I, J)).2).2
  answer : ∀ {nA nK E I J} (w : Int64) (a : Int32) (b : Int32) (c : Int32) (d : Int32), RR nA nK E I J → k_St RR nA nK E (cAnswer nA nK w a b c d (I, J)).2.2 (cAnswer nA nK w a b c d (I, J)).1 (mcAnswer nA w a b c d (cAnswer nA nK w a b c d (I, J)).2.2).1 (cAnswer nA nK w a b c d (I, J)).2.1 nK (mcAnswer nA w a b c d (cAnswer nA nK w a b c d (I, J)).2.2).2
  join : ∀ {nA nK E I J} (a : Int32) (b : Int32) (c : Int32) (d : Int32), RR nA nK E I J → k_St RR nA nK E (cJoin nA nK a b c d (I, J)).2.2 (cJoin nA nK a b c d (I, J)).1 (mcJoin nA a b c d (cJoin nA nK a b c d (I, J)).2.2).1 (cJoin nA nK a b c d (I, J)).2.1 nK (mcJoin nA a b c d (cJoin nA nK a b c d (I, J)).2.2).2
  bind : ∀ {nA nK E I J} (a : Int32) (b : Int32), RR nA nK E I J → k_St RR nA nK E (cBind nA nK a b (I, J)).2 (cBind nA nK a b (I, J)).1 (mcBind nA a b (cBind nA nK a b (I, J)).2).1 nA nK (mcBind nA a b (cBind nA nK a b (I, J)).2).2
  confirm : ∀ {nA nK E I J} (a : Int32), RR nA nK E I J → k_St RR nA nK E (cConfirm nA nK a (I, J)).2 (cConfirm nA nK a (I, J)).1 (mcConfirm E nA a (cConfirm nA nK a (I, J)).2).1 nA nK (mcConfirm E nA a (cConfirm nA nK a (I, J)).2).2
  move : ∀ {nA nK E I J} (a : Int32) (b : Int32), RR nA nK E I J → k_St RR nA nK E (cMove nA nK a b (I, J)).2 (cMove nA nK a b (I, J)).1 (mcMove E nA a b (cMove nA nK a b (I, J)).2).1 nA nK (mcMove E nA a b (cMove nA nK a b (I, J)).2).2
  melt : ∀ {nA nK E I J} (a : Int32) (b : Int32), RR nA nK E I J → k_St RR nA nK E (cMelt nA nK a b (I, J)).2 (cMelt nA nK a b (I, J)).1 (mcMelt nA a b (cMelt nA nK a b (I, J)).2).1 nA nK (mcMelt nA a b (cMelt nA nK a b (I, J)).2).2
  vote : ∀ {nA nK E I J} (a : Int32) (b : Bool), RR nA nK E I J → k_St RR nA nK E (cVote nA a b (I, J)).2 (cVote nA a b (I, J)).1 (mcVote nA a b (cVote nA a b (I, J)).2).1 nA nK (mcVote nA a b (cVote nA a b (I, J)).2).2
  told : ∀ {nA nK E I J} (a : Int32) (b : Int32), RR nA nK E I J → k_St RR nA nK E (I, J) (cTold nA I a b) (mcTold E nA a b (I, J)).1 nA nK (mcTold E nA a b (I, J)).2
  words : ∀ {nA nK E I J} (a : Int32), RR nA nK E I J → k_St RR nA nK E (I, J) (cWords nA J a) (mcWords E nA a (I, J)).1 nA nK (mcWords E nA a (I, J)).2
  holds : ∀ {nA nK E I J} (a : Int32) (b : Int32) (c : Int32) (d : Int32), RR nA nK E I J → k_St RR nA nK E (I, J) (cHolds nA I a b c d) (mcHolds E nA a b c d (I, J)).1 nA nK (mcHolds E nA a b c d (I, J)).2
  count : ∀ {nA nK E I J} (a : Int32), RR nA nK E I J → k_St RR nA nK E (I, J) (cCount nA nK I J a) (mcCount E nA nK a (I, J)).1 nA nK (mcCount E nA nK a (I, J)).2
  quarrel : ∀ {nA nK E I J} (a : Int32) (b : Int32), RR nA nK E I J → k_St RR nA nK E (I, J) (cQuarrel nA I J a b) (mcQuarrel nA I J a b) nA nK (I, J)
  ask : ∀ {nA nK E I J} (w : Int64) (a : Int32) (b : Int32) (c : Int32), RR nA nK E I J → k_St RR nA nK E (cAsk nA nK w a b c (I, J)).2.2 (cAsk nA nK w a b c (I, J)).1 (mcAsk nK w a b c (cAsk nA nK w a b c (I, J)).2.2).1 nA (cAsk nA nK w a b c (I, J)).2.1 (mcAsk nK w a b c (cAsk nA nK w a b c (I, J)).2.2).2
  found : ∀ {nA nK E I J} (a : Int32) (b : Int32) (c : Int32), RR nA nK E I J → k_St RR nA nK E (I, J) (cFound nA nK I J a b c) (mcFound E nA nK a b c (I, J)).1 nA nK (mcFound E nA nK a b c (I, J)).2
  cost : ∀ {nA nK E I J} (a : Int32) (b : Int32), RR nA nK E I J → k_St RR nA nK E (I, J) (cCost nA nK I J a b) (mcCost E nA nK a b (I, J)).1 nA nK (mcCost E nA nK a b (I, J)).2
  asked : ∀ {nA nK E I J} (a : Int32) (b : Int32), RR nA nK E I J → k_St RR nA nK E (I, J) (cAsked nA nK I J a b) (mcAsked E nA nK a b (I, J)).1 nA nK (mcAsked E nA nK a b (I, J)).2
section LWK
variable {p : Program} {l : Launch} {e : Env} {s : State} {m : MethodId} {below : List Frame} {meth : Method} {c : Code} {H : Heap} {locs : List Loc} {cells slots : Nat} {Q : State → Prop}
variable {pc b L : Nat} {xs : Nat → Int32} {ls : Array Slot} {rest : List Value} {G : k_G}
theorem lw_sld (X : k_X p m c cL_law 4 s #[Value.ref b] "AnswerKeeperLaw" G) (hX : va_X b L xs s s.heap) (hbl : b < s.heap.size) (hG : G.2.2.1 = s.heap.size) (hS : va_S (k_A G) s.heap H locs) (hL : L ≤ 3584) {i : Nat} (hi : i < L) (hdg : decode cL_law pc = .ok (.iaload, 1))
    (kk : W p l e room_1 s m #[Value.ref b] below meth c H locs cells slots Q (F0 m (pc + 1) ls (.int (xs i) :: rest))) : W p l e room_1 s m #[Value.ref b] below meth c H locs cells slots Q (F0 m pc ls (.int (nI i) :: .ref b :: rest)) := by
  refine va_sld X.1.1 X.1.2.1 hX hbl (by unfold k_A; rw [hG]; exact Nat.not_le.mpr hbl) hS (vp_in_nI hi (by omega)) hdg ?_
  rw [nI_clamp (by omega)]
  exact kk
end LWK
abbrev lw_C (RR : Nat → Nat → (Nat → Nat) → k_I → k_J → Prop) (p : Program) (l : Launch) (e : Env) (s : State) (m : MethodId) (below : List Frame) (meth : Method) (c : Code) (b : Nat) (G : k_G) (i cells slots : Nat) (Q : State → Prop) (pc : Nat) : Prop :=
  ∀ (ad : Nat → Nat → Nat) (nA nK : Nat) (E : Nat → Nat) (I : k_I) (J : k_J) (H : Heap) (locs : List Loc) (ls : Array Slot), RR nA nK E I J → Wd G ad nA nK I J H → va_S (k_A G) s.heap H locs → lv_has ls 4 [(3, .int (nI i)), (2, .ref (ad 13 0)), (1, .ref (ad 0 0)), (0, .ref b)] → W p l e room_1 s m #[Value.ref b] below meth c H locs cells slots Q (F0 m pc ls [])
