/-! numbers by their bits (the first rows out of kit/laws/BITS.to-paste) -/
def bt (x : Int32) (i : Nat) : Bool := x.toBitVec.getLsbD i
theorem b_ext {x y : Int32} (h : ∀ i, i < 32 → bt x i = bt y i) : x = y := Int32.toBitVec_inj.mp (BitVec.eq_of_getLsbD_eq (fun i hi => h i hi))
theorem b_or (x y : Int32) (i : Nat) : bt (x ||| y) i = (bt x i || bt y i) := by unfold bt; rw [Int32.toBitVec_or, BitVec.getLsbD_or]
theorem b_and (x y : Int32) (i : Nat) : bt (x &&& y) i = (bt x i && bt y i) := by unfold bt; rw [Int32.toBitVec_and, BitVec.getLsbD_and]
theorem b_xor (x y : Int32) (i : Nat) : bt (x ^^^ y) i = (bt x i ^^ bt y i) := by unfold bt; rw [Int32.toBitVec_xor, BitVec.getLsbD_xor]
theorem b_big {x : Int32} {i : Nat} (h : 32 ≤ i) : bt x i = false := BitVec.getLsbD_of_ge _ _ h
--
theorem b_m1 : ∀ i, i < 32 → bt (-1) i = true := by decide +kernel
theorem b_0 (i : Nat) : bt 0 i = false := BitVec.getLsbD_zero
theorem s_l : ∀ n, n < 32 → ((nI n &&& 31).toBitVec.smod 32).toNat = n := by decide +kernel
theorem b_shl (n : Nat) (hn : n < 32) (x : Int32) {i : Nat} (hi : i < 32) : bt (x <<< (nI n &&& 31)) i = (decide (n ≤ i) && bt x (i - n)) := by
  unfold bt
  rw [Int32.toBitVec_shiftLeft]
  show (x.toBitVec <<< ((nI n &&& 31).toBitVec.smod 32).toNat).getLsbD i = _
  rw [s_l n hn, BitVec.getLsbD_shiftLeft]
  rcases Nat.lt_or_ge i n with h | h
  · simp [h, Nat.not_le.mpr h]
  · simp [hi, h, Nat.not_lt.mpr h]
theorem b_sshr (n : Nat) (hn : n < 32) (x : Int32) {i : Nat} (hi : i < 32) : bt (x >>> (nI n &&& 31)) i = if n + i < 32 then bt x (n + i) else bt x 31 := by
  unfold bt
  rw [Int32.toBitVec_shiftRight]
  show (x.toBitVec.sshiftRight ((nI n &&& 31).toBitVec.smod 32).toNat).getLsbD i = _
  rw [s_l n hn, BitVec.getLsbD_sshiftRight, BitVec.msb_eq_getLsbD_last]
  simp [hi]

theorem b_1 (i : Nat) : bt 1 i = decide (i = 0) := by
  rcases Nat.lt_or_ge i 32 with h | h
  · exact (by decide +kernel : ∀ i, i < 32 → bt 1 i = decide (i = 0)) i h
  · rw [b_big h, decide_eq_false (by omega)]
theorem b_kb (P : Bool) (i : Nat) : bt (k_b P) i = (P && decide (i = 0)) := by
  cases P
  · exact b_0 i
  · exact b_1 i
/-- one bit, shifted down -/
theorem b_at (x : Int32) {i : Nat} (hi : i < 32) : x >>> (nI i &&& 31) &&& 1 = k_b (bt x i) := by
  apply b_ext
  intro j hj
  rw [b_and, b_sshr i hi x hj, b_1, b_kb]
  by_cases h : j = 0
  · subst h
    simp [hi]
  · simp [h]
theorem b_at0 (x : Int32) {i : Nat} (hi : i < 32) : x >>> (nI i &&& 31) &&& 1 = 0 ↔ bt x i = false := by
  rw [b_at x hi]
  cases bt x i
  · exact ⟨fun _ => rfl, fun _ => rfl⟩
  · exact ⟨fun h => absurd h (by decide), fun h => by cases h⟩
theorem b_at1 (x : Int32) {i : Nat} (hi : i < 32) : x >>> (nI i &&& 31) &&& 1 = 1 ↔ bt x i = true := by
  rw [b_at x hi]
  cases bt x i
  · exact ⟨fun h => absurd h (by decide), fun h => by cases h⟩
  · exact ⟨fun _ => rfl, fun _ => rfl⟩
/-- one bit alone -/
theorem b_bit {n : Nat} (hn : n ≤ 30) {i : Nat} (hi : i < 32) : bt (kBit (nI n)) i = decide (i = n) := by
  have e : kBit (nI n) = 1 <<< (nI n &&& 31) := by
    unfold kBit
    rw [if_neg (nI_pos (by omega)), if_neg (show ¬ (30 : Int32) < nI n from nI_nlt (a := 30) (b := n) hn (by decide))]
  rw [e, b_shl n (by omega) 1 hi, b_1]
  by_cases h : i = n
  · subst h; simp
  · by_cases h2 : n ≤ i
    · simp [h, h2]; omega
    · simp [h, h2]
theorem b_zero {x : Int32} : x = 0 ↔ ∀ i, i < 32 → bt x i = false := by
  constructor
  · rintro rfl i _; exact b_0 i
  · intro h; exact b_ext (fun i hi => by rw [h i hi, b_0])
theorem b_and_bit (x : Int32) {n : Nat} (hn : n ≤ 30) : x &&& kBit (nI n) = 0 ↔ bt x n = false := by
  rw [b_zero]
  constructor
  · intro h
    have := h n (by omega)
    rw [b_and, b_bit hn (by omega)] at this
    simpa using this
  · intro h i hi
    rw [b_and, b_bit hn hi]
    by_cases e : i = n
    · subst e; simp [h]
    · simp [e]
/-- the least bit there is -/
theorem b_least {x : Int32} (h : ¬ x = 0) : ∃ k, k < 32 ∧ (∀ j, j < k → bt x j = false) ∧ bt x k = true := by
  have h1 : ∃ k, k < 32 ∧ bt x k = true := by
    refine Classical.byContradiction fun c => h (b_zero.mpr fun i hi => ?_)
    cases hb : bt x i
    · rfl
    · exact absurd ⟨i, hi, hb⟩ c
  obtain ⟨k, hk, hm⟩ := pk_least (fun k => k < 32 ∧ bt x k = true) h1
  refine ⟨k, hk.1, fun j hj => ?_, hk.2⟩
  cases hb : bt x j
  · rfl
  · exact absurd ⟨by omega, hb⟩ (hm j hj)
/-! the same for longs -/
def bl (x : Int64) (i : Nat) : Bool := x.toBitVec.getLsbD i
theorem l_ext {x y : Int64} (h : ∀ i, i < 64 → bl x i = bl y i) : x = y := Int64.toBitVec_inj.mp (BitVec.eq_of_getLsbD_eq (fun i hi => h i hi))
theorem l_or (x y : Int64) (i : Nat) : bl (x ||| y) i = (bl x i || bl y i) := by unfold bl; rw [Int64.toBitVec_or, BitVec.getLsbD_or]
theorem l_and (x y : Int64) (i : Nat) : bl (x &&& y) i = (bl x i && bl y i) := by unfold bl; rw [Int64.toBitVec_and, BitVec.getLsbD_and]
theorem l_xor (x y : Int64) (i : Nat) : bl (x ^^^ y) i = (bl x i ^^ bl y i) := by unfold bl; rw [Int64.toBitVec_xor, BitVec.getLsbD_xor]
theorem l_big {x : Int64} {i : Nat} (h : 64 ≤ i) : bl x i = false := BitVec.getLsbD_of_ge _ _ h
theorem l_m1 : ∀ i, i < 64 → bl (-1) i = true := by decide +kernel
theorem l_0 (i : Nat) : bl 0 i = false := BitVec.getLsbD_zero
theorem l_1 (i : Nat) : bl 1 i = decide (i = 0) := by
  rcases Nat.lt_or_ge i 64 with h | h
  · exact (by decide +kernel : ∀ i, i < 64 → bl 1 i = decide (i = 0)) i h
  · rw [l_big h, decide_eq_false (by omega)]
theorem s_L : ∀ n, n < 64 → ((Int32.toInt64 (nI n) &&& 63).toBitVec.smod 64).toNat = n := by decide +kernel
theorem l_shl (n : Nat) (hn : n < 64) (x : Int64) {i : Nat} (hi : i < 64) : bl (x <<< (Int32.toInt64 (nI n) &&& 63)) i = (decide (n ≤ i) && bl x (i - n)) := by
  unfold bl
  rw [Int64.toBitVec_shiftLeft]
  show (x.toBitVec <<< ((Int32.toInt64 (nI n) &&& 63).toBitVec.smod 64).toNat).getLsbD i = _
  rw [s_L n hn, BitVec.getLsbD_shiftLeft]
  rcases Nat.lt_or_ge i n with h | h
  · simp [h, Nat.not_le.mpr h]
  · simp [hi, h, Nat.not_lt.mpr h]
theorem l_sshr (n : Nat) (hn : n < 64) (x : Int64) {i : Nat} (hi : i < 64) : bl (x >>> (Int32.toInt64 (nI n) &&& 63)) i = if n + i < 64 then bl x (n + i) else bl x 63 := by
  unfold bl
  rw [Int64.toBitVec_shiftRight]
  show (x.toBitVec.sshiftRight ((Int32.toInt64 (nI n) &&& 63).toBitVec.smod 64).toNat).getLsbD i = _
  rw [s_L n hn, BitVec.getLsbD_sshiftRight, BitVec.msb_eq_getLsbD_last]
  simp [hi]
def l_b (P : Bool) : Int64 := if P then 1 else 0
theorem l_kb (P : Bool) (i : Nat) : bl (l_b P) i = (P && decide (i = 0)) := by
  cases P
  · exact l_0 i
  · exact l_1 i
theorem l_at (x : Int64) {i : Nat} (hi : i < 64) : x >>> (Int32.toInt64 (nI i) &&& 63) &&& 1 = l_b (bl x i) := by
  apply l_ext
  intro j hj
  rw [l_and, l_sshr i hi x hj, l_1, l_kb]
  by_cases h : j = 0
  · subst h
    simp [hi]
  · simp [h]
theorem l_zero {x : Int64} : x = 0 ↔ ∀ i, i < 64 → bl x i = false := by
  constructor
  · rintro rfl i _; exact l_0 i
  · intro h; exact l_ext (fun i hi => by rw [h i hi, l_0])
theorem l_bit (n : Nat) (hn : n < 64) {i : Nat} (hi : i < 64) : bl (1 <<< (Int32.toInt64 (nI n) &&& 63)) i = decide (i = n) := by
  rw [l_shl n hn 1 hi, l_1]
  by_cases h : i = n
  · subst h; simp
  · by_cases h2 : n ≤ i
    · simp [h, h2]; omega
    · simp [h, h2]
theorem l_and_bit (x : Int64) {n : Nat} (hn : n < 64) : x &&& (1 <<< (Int32.toInt64 (nI n) &&& 63)) = 0 ↔ bl x n = false := by
  rw [l_zero]
  constructor
  · intro h
    have := h n hn
    rw [l_and, l_bit n hn hn] at this
    simpa using this
  · intro h i hi
    rw [l_and, l_bit n hn hi]
    by_cases e : i = n
    · subst e; simp [h]
    · simp [e]
