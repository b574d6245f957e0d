/-! the JDK's bit counts count bits: digits to the bases 2, 4, 16, 256 -/
def ds (B : Nat) : Nat → (Nat → Nat) → Nat
  | 0, _ => 0
  | n + 1, d => d 0 + B * ds B n (fun i => d (i + 1))
theorem ds_s (B n : Nat) (d : Nat → Nat) : ds B (n + 1) d = d 0 + B * ds B n (fun i => d (i + 1)) := rfl
theorem ds_cg {B : Nat} : ∀ {n : Nat} {d e : Nat → Nat}, (∀ i, i < n → d i = e i) → ds B n d = ds B n e
  | 0, _, _, _ => rfl
  | n + 1, d, e, h => by
    rw [ds_s, ds_s, h 0 (by omega), ds_cg (n := n) (d := fun i => d (i + 1)) (e := fun i => e (i + 1)) (fun i hi => h (i + 1) (by omega))]
theorem ds_add {B : Nat} : ∀ {n : Nat} {d e : Nat → Nat}, ds B n d + ds B n e = ds B n (fun i => d i + e i)
  | 0, _, _ => rfl
  | n + 1, d, e => by
    rw [ds_s, ds_s, ds_s, ← ds_add (n := n) (d := fun i => d (i + 1)) (e := fun i => e (i + 1)), Nat.mul_add]
    omega
theorem ds_snoc {B : Nat} : ∀ {n : Nat} {d : Nat → Nat}, ds B (n + 1) d = ds B n d + B ^ n * d n
  | 0, d => by
    show d 0 + B * 0 = 0 + B ^ 0 * d 0
    simp
  | n + 1, d => by
    rw [ds_s, ds_snoc (n := n) (d := fun i => d (i + 1)), ds_s B n d, Nat.mul_add, ← Nat.mul_assoc, Nat.pow_succ, Nat.mul_comm (B ^ n) B]
    omega
theorem ds_pad {B n : Nat} {d : Nat → Nat} (h : d n = 0) : ds B (n + 1) d = ds B n d := by
  rw [ds_snoc, h, Nat.mul_zero, Nat.add_zero]
theorem ds_pair {B : Nat} : ∀ {n : Nat} {d : Nat → Nat}, ds B (2 * n) d = ds (B * B) n (fun i => d (2 * i) + B * d (2 * i + 1))
  | 0, _ => rfl
  | n + 1, d => by
    rw [show 2 * (n + 1) = 2 * n + 1 + 1 by omega, ds_s, ds_s, ds_s, ds_pair (n := n)]
    simp only [Nat.mul_zero, Nat.zero_add]
    have e : ds (B * B) n (fun i => d (2 * i + 1 + 1) + B * d (2 * i + 1 + 1 + 1)) = ds (B * B) n (fun i => d (2 * (i + 1)) + B * d (2 * (i + 1) + 1)) := ds_cg fun i _ => by rw [show 2 * (i + 1) = 2 * i + 1 + 1 by omega]
    rw [← e, Nat.mul_add, ← Nat.mul_assoc, Nat.add_assoc]
theorem ds_lt {B : Nat} : ∀ {n : Nat} {d : Nat → Nat}, (∀ i, i < n → d i < B) → ds B n d < B ^ n
  | 0, _, _ => by
    show 0 < B ^ 0
    simp
  | n + 1, d, h => by
    have h1 := ds_lt (n := n) (d := fun i => d (i + 1)) (fun i hi => h (i + 1) (by omega))
    have h0 := h 0 (by omega)
    rw [ds_s, Nat.pow_succ]
    have h2 : B * (ds B n (fun i => d (i + 1)) + 1) ≤ B * B ^ n := Nat.mul_le_mul_left B h1
    rw [Nat.mul_add, Nat.mul_one] at h2
    rw [Nat.mul_comm (B ^ n) B]
    omega
theorem nd_and {s a b c d : Nat} (ha : a < 2 ^ s) (hc : c < 2 ^ s) : (a + 2 ^ s * b) &&& (c + 2 ^ s * d) = (a &&& c) + 2 ^ s * (b &&& d) := by
  apply Nat.eq_of_testBit_eq
  intro i
  have hac : (a &&& c) < 2 ^ s := Nat.lt_of_le_of_lt Nat.and_le_left ha
  rw [Nat.testBit_and, Nat.add_comm a, Nat.add_comm c, Nat.add_comm (a &&& c), Nat.testBit_two_pow_mul_add _ ha, Nat.testBit_two_pow_mul_add _ hc, Nat.testBit_two_pow_mul_add _ hac]
  split
  · rw [Nat.testBit_and]
  · rw [Nat.testBit_and]
theorem ds_and {s : Nat} : ∀ {n : Nat} {d m : Nat → Nat}, (∀ i, i < n → d i < 2 ^ s) → (∀ i, i < n → m i < 2 ^ s) → ds (2 ^ s) n d &&& ds (2 ^ s) n m = ds (2 ^ s) n (fun i => d i &&& m i)
  | 0, _, _, _, _ => Nat.zero_and 0
  | n + 1, d, m, h1, h2 => by
    rw [ds_s, ds_s, ds_s, nd_and (h1 0 (by omega)) (h2 0 (by omega)), ds_and (n := n) (d := fun i => d (i + 1)) (m := fun i => m (i + 1)) (fun i hi => h1 (i + 1) (by omega)) (fun i hi => h2 (i + 1) (by omega))]
theorem ds_shr {s n : Nat} {d : Nat → Nat} (h : d 0 < 2 ^ s) (h2 : d (n + 1) = 0) : ds (2 ^ s) (n + 1) d >>> s = ds (2 ^ s) (n + 1) (fun i => d (i + 1)) := by
  rw [ds_pad (n := n) (d := fun i => d (i + 1)) h2, ds_s, Nat.shiftRight_eq_div_pow, Nat.add_mul_div_left _ _ (Nat.two_pow_pos s), Nat.div_eq_of_lt h, Nat.zero_add]
theorem ds_bits : ∀ (n x : Nat), x < 2 ^ n → x = ds 2 n (fun i => if x.testBit i then 1 else 0)
  | 0, x, h => by
    show x = 0
    rw [Nat.pow_zero] at h
    omega
  | n + 1, x, h => by
    rw [ds_s]
    have h1 := ds_bits n (x / 2) (by rw [Nat.pow_succ] at h; omega)
    have e : (fun i => if x.testBit (i + 1) = true then 1 else 0) = fun i => if (x / 2).testBit i = true then 1 else 0 := by
      funext i
      rw [Nat.testBit_succ]
    rw [e, ← h1, Nat.testBit_zero]
    simp only [decide_eq_true_eq]
    split <;> omega
/-- the first three steps, on n bytes -/
def pA (n x : Nat) : Nat := x - ((x >>> 1) &&& ds 4 (4 * n) (fun _ => 1))
def pB (n x : Nat) : Nat := (x &&& ds 16 (2 * n) (fun _ => 3)) + ((x >>> 2) &&& ds 16 (2 * n) (fun _ => 3))
def pC (n x : Nat) : Nat := (x + (x >>> 4)) &&& ds 256 n (fun _ => 15)
def pb (x i : Nat) : Nat := if x.testBit i then 1 else 0
theorem pb_le (x i : Nat) : pb x i ≤ 1 := by unfold pb; split <;> omega
theorem pb_0 {n x i : Nat} (h : x < 2 ^ n) (hi : n ≤ i) : pb x i = 0 := by
  unfold pb
  rw [if_neg]
  have := Nat.testBit_lt_two_pow (x := x) (i := i) (Nat.lt_of_lt_of_le h (Nat.pow_le_pow_right (by omega) hi))
  rw [this]; exact Bool.false_ne_true
def pp (x i : Nat) : Nat := pb x (2 * i) + pb x (2 * i + 1)
def pq (x i : Nat) : Nat := pp x (2 * i) + pp x (2 * i + 1)
def pr (x i : Nat) : Nat := pq x (2 * i) + pq x (2 * i + 1)
theorem pp_le (x i : Nat) : pp x i ≤ 2 := by
  have h1 := pb_le x (2 * i)
  have h2 := pb_le x (2 * i + 1)
  unfold pp; omega
theorem pq_le (x i : Nat) : pq x i ≤ 4 := by
  have h1 := pp_le x (2 * i)
  have h2 := pp_le x (2 * i + 1)
  unfold pq; omega
theorem pr_le (x i : Nat) : pr x i ≤ 8 := by
  have h1 := pq_le x (2 * i)
  have h2 := pq_le x (2 * i + 1)
  unfold pr; omega
theorem pp_0 {n x i : Nat} (h : x < 2 ^ n) (hi : n ≤ 2 * i) : pp x i = 0 := by unfold pp; rw [pb_0 h hi, pb_0 h (by omega)]
theorem pq_0 {n x i : Nat} (h : x < 2 ^ n) (hi : n ≤ 4 * i) : pq x i = 0 := by unfold pq; rw [pp_0 h (by omega), pp_0 h (by omega)]
theorem pr_0 {n x i : Nat} (h : x < 2 ^ n) (hi : n ≤ 8 * i) : pr x i = 0 := by unfold pr; rw [pq_0 h (by omega), pq_0 h (by omega)]
theorem pA_v {n x : Nat} (hx : x < 2 ^ (8 * n)) : pA n x = ds 4 (4 * n) (pp x) := by
  have e1 : x = ds 4 (4 * n) (fun i => pb x (2 * i) + 2 * pb x (2 * i + 1)) := by
    have h := ds_bits (8 * n) x hx
    rw [show 8 * n = 2 * (4 * n) by omega, ds_pair] at h
    exact h
  have e2 : x >>> 1 = ds 4 (4 * n) (fun i => pb x (2 * i + 1) + 2 * pb x (2 * i + 2)) := by
    have hl : x >>> 1 < 2 ^ (8 * n) := Nat.lt_of_le_of_lt (Nat.shiftRight_le x 1) hx
    have h := ds_bits (8 * n) (x >>> 1) hl
    rw [show 8 * n = 2 * (4 * n) by omega, ds_pair] at h
    rw [h]
    refine ds_cg fun i _ => ?_
    unfold pb
    rw [Nat.testBit_shiftRight, Nat.testBit_shiftRight, show 1 + 2 * i = 2 * i + 1 by omega, show 1 + (2 * i + 1) = 2 * i + 2 by omega]
  have e3 : (x >>> 1) &&& ds 4 (4 * n) (fun _ => 1) = ds 4 (4 * n) (fun i => pb x (2 * i + 1)) := by
    rw [e2]
    rw [ds_and (s := 2) (fun i _ => by have h1 := pb_le x (2 * i + 1); have h2 := pb_le x (2 * i + 2); show _ < 4; omega) (fun _ _ => by decide)]
    refine ds_cg fun i _ => ?_
    rw [Nat.and_one_is_mod]
    have h1 := pb_le x (2 * i + 1)
    omega
  unfold pA
  rw [e3]
  have e4 : x = ds 4 (4 * n) (pp x) + ds 4 (4 * n) (fun i => pb x (2 * i + 1)) := by
    rw [ds_add]
    refine e1.trans (ds_cg fun i _ => ?_)
    unfold pp
    omega
  omega
theorem pB_v {n x : Nat} (hn : 0 < n) (hx : x < 2 ^ (8 * n)) : pB n (ds 4 (4 * n) (pp x)) = ds 16 (2 * n) (pq x) := by
  have e1 : ds 4 (4 * n) (pp x) = ds 16 (2 * n) (fun i => pp x (2 * i) + 4 * pp x (2 * i + 1)) := by
    rw [show 4 * n = 2 * (2 * n) by omega, ds_pair]
  have e2 : ds 4 (4 * n) (pp x) >>> 2 = ds 16 (2 * n) (fun i => pp x (2 * i + 1) + 4 * pp x (2 * i + 2)) := by
    obtain ⟨m, hm⟩ : ∃ m, 4 * n = m + 1 := ⟨4 * n - 1, by omega⟩
    rw [hm, ds_shr (s := 2) (by have := pp_le x 0; show _ < 4; omega) (pp_0 hx (by omega)), ← hm, show 4 * n = 2 * (2 * n) by omega]
    exact ds_pair
  unfold pB
  rw [e2, e1]
  rw [ds_and (s := 4) (fun i _ => by have h1 := pp_le x (2 * i); have h2 := pp_le x (2 * i + 1); show _ < 16; omega) (fun _ _ => by decide)]
  rw [ds_and (s := 4) (fun i _ => by have h1 := pp_le x (2 * i + 1); have h2 := pp_le x (2 * i + 2); show _ < 16; omega) (fun _ _ => by decide), ds_add]
  refine ds_cg fun i _ => ?_
  show ((pp x (2 * i) + 4 * pp x (2 * i + 1)) &&& (2 ^ 2 - 1)) + ((pp x (2 * i + 1) + 4 * pp x (2 * i + 2)) &&& (2 ^ 2 - 1)) = _
  rw [Nat.and_two_pow_sub_one_eq_mod, Nat.and_two_pow_sub_one_eq_mod]
  have h1 := pp_le x (2 * i)
  have h2 := pp_le x (2 * i + 1)
  unfold pq
  omega
theorem pC_v {n x : Nat} (hn : 0 < n) (hx : x < 2 ^ (8 * n)) : pC n (ds 16 (2 * n) (pq x)) = ds 256 n (pr x) := by
  have e2 : ds 16 (2 * n) (pq x) >>> 4 = ds 16 (2 * n) (fun i => pq x (i + 1)) := by
    obtain ⟨m, hm⟩ : ∃ m, 2 * n = m + 1 := ⟨2 * n - 1, by omega⟩
    rw [hm]
    exact ds_shr (s := 4) (by have := pq_le x 0; show _ < 16; omega) (pq_0 hx (by omega))
  unfold pC
  rw [e2, ds_add, ds_pair]
  rw [ds_and (s := 8) (fun i _ => by
    have h1 := pq_le x (2 * i)
    have h2 := pq_le x (2 * i + 1)
    have h3 := pq_le x (2 * i + 1 + 1)
    show _ < 256; omega) (fun _ _ => by decide)]
  refine ds_cg fun i _ => ?_
  show (pq x (2 * i) + pq x (2 * i + 1) + 16 * (pq x (2 * i + 1) + pq x (2 * i + 1 + 1))) &&& (2 ^ 4 - 1) = _
  rw [Nat.and_two_pow_sub_one_eq_mod]
  have h1 := pq_le x (2 * i)
  have h2 := pq_le x (2 * i + 1)
  unfold pr
  omega
/-- bytes added up by halves -/
theorem pD_v {n s : Nat} {d : Nat → Nat} {k : Nat} (hs : s = 8 * k) (hn : ∀ i, n ≤ i → d i = 0) (hd : ∀ i, d i < 256) : ds 256 n d >>> s = ds 256 n (fun i => d (i + k)) := by
  subst hs
  induction k generalizing d with
  | zero => rfl
  | succ k ih =>
    rw [show 8 * (k + 1) = 8 + 8 * k by omega, Nat.shiftRight_add]
    have e : ds 256 n d >>> 8 = ds 256 n (fun i => d (i + 1)) := by
      cases n with
      | zero => exact Nat.zero_shiftRight 8
      | succ n => exact ds_shr (s := 8) (hd 0) (hn (n + 1) (Nat.le_refl _))
    rw [e, ih (d := fun i => d (i + 1)) (fun i hi => hn (i + 1) (by omega)) (fun i => hd (i + 1))]
    exact ds_cg fun i _ => by rw [Nat.add_assoc]
theorem p_low {n s : Nat} {d : Nat → Nat} (hs : s ≤ 8) (h : d 0 < 2 ^ s) : ds 256 (n + 1) d % 2 ^ s = d 0 := by
  rw [ds_s]
  have e : (256 : Nat) = 2 ^ s * 2 ^ (8 - s) := by rw [← Nat.pow_add, show s + (8 - s) = 8 by omega]
  rw [e, Nat.mul_assoc, Nat.add_mul_mod_self_left, Nat.mod_eq_of_lt h]
/-! on Int32 and Int64 -/
def t32 (x : Int32) : Nat := x.toBitVec.toNat
def t64 (x : Int64) : Nat := x.toBitVec.toNat
theorem t32_lt (x : Int32) : t32 x < 2 ^ 32 := x.toBitVec.isLt
theorem t64_lt (x : Int64) : t64 x < 2 ^ 64 := x.toBitVec.isLt
theorem t32_and (x y : Int32) : t32 (x &&& y) = t32 x &&& t32 y := by unfold t32; rw [Int32.toBitVec_and, BitVec.toNat_and]
theorem t64_and (x y : Int64) : t64 (x &&& y) = t64 x &&& t64 y := by unfold t64; rw [Int64.toBitVec_and, BitVec.toNat_and]
theorem t32_add {x y : Int32} (h : t32 x + t32 y < 2 ^ 32) : t32 (x + y) = t32 x + t32 y := by unfold t32 at h ⊢; rw [Int32.toBitVec_add, BitVec.toNat_add, Nat.mod_eq_of_lt h]
theorem t64_add {x y : Int64} (h : t64 x + t64 y < 2 ^ 64) : t64 (x + y) = t64 x + t64 y := by unfold t64 at h ⊢; rw [Int64.toBitVec_add, BitVec.toNat_add, Nat.mod_eq_of_lt h]
theorem t32_sub {x y : Int32} (h : t32 y ≤ t32 x) : t32 (x - y) = t32 x - t32 y := by
  have hx := t32_lt x
  unfold t32 at h hx ⊢
  rw [Int32.toBitVec_sub, BitVec.toNat_sub]
  omega
theorem t64_sub {x y : Int64} (h : t64 y ≤ t64 x) : t64 (x - y) = t64 x - t64 y := by
  have hx := t64_lt x
  unfold t64 at h hx ⊢
  rw [Int64.toBitVec_sub, BitVec.toNat_sub]
  omega
theorem u_l : ∀ n, n < 32 → (((nI n).toUInt32 &&& Int32.toUInt32 31).toBitVec % 32).toNat = n := by decide +kernel
theorem u_L : ∀ n, n < 64 → (((Int32.toInt64 (nI n)).toUInt64 &&& Int64.toUInt64 63).toBitVec % 64).toNat = n := by decide +kernel
theorem t32_shr (x : Int32) {n : Nat} (hn : n < 32) : t32 (kS32 x (nI n)) = t32 x >>> n := by
  show (x.toUInt32 >>> ((nI n).toUInt32 &&& Int32.toUInt32 31)).toBitVec.toNat = _
  rw [UInt32.toBitVec_shiftRight]
  show (x.toUInt32.toBitVec >>> (((nI n).toUInt32 &&& Int32.toUInt32 31).toBitVec % 32).toNat).toNat = _
  rw [u_l n hn, BitVec.toNat_ushiftRight]
  rfl
theorem t64_shr (x : Int64) {n : Nat} (hn : n < 64) : t64 (kS64 x (nI n)) = t64 x >>> n := by
  show (x.toUInt64 >>> ((Int32.toInt64 (nI n)).toUInt64 &&& Int64.toUInt64 63)).toBitVec.toNat = _
  rw [UInt64.toBitVec_shiftRight]
  show (x.toUInt64.toBitVec >>> (((Int32.toInt64 (nI n)).toUInt64 &&& Int64.toUInt64 63).toBitVec % 64).toNat).toNat = _
  rw [u_L n hn, BitVec.toNat_ushiftRight]
  rfl
def cb (x : Nat) : Nat → Nat
  | 0 => 0
  | n + 1 => cb x n + pb x n
theorem cb_s (x n : Nat) : cb x (n + 1) = cb x n + pb x n := rfl
theorem cb_4 (x n : Nat) : cb x (8 * (n + 1)) = cb x (8 * n) + pr x n := by
  rw [show 8 * (n + 1) = 8 * n + 1 + 1 + 1 + 1 + 1 + 1 + 1 + 1 by omega]
  rw [cb_s, cb_s, cb_s, cb_s, cb_s, cb_s, cb_s, cb_s]
  unfold pr pq pp
  rw [show 2 * (2 * (2 * n)) = 8 * n by omega, show 2 * (2 * (2 * n) + 1) = 8 * n + 2 by omega, show 2 * (2 * (2 * n + 1)) = 8 * n + 4 by omega, show 2 * (2 * (2 * n + 1) + 1) = 8 * n + 6 by omega]
  simp only [Nat.add_assoc, Nat.reduceAdd]
theorem t32_pop (x : Int32) : t32 (kBC32 x) = cb (t32 x) 32 := by
  have hx : t32 x < 2 ^ (8 * 4) := t32_lt x
  have a1 := pA_v (n := 4) hx
  have hsub : (t32 x >>> 1) &&& ds 4 (4 * 4) (fun _ => 1) ≤ t32 x := Nat.le_trans Nat.and_le_left (Nat.shiftRight_le _ 1)
  have e1 : t32 (kS32 x 1 &&& 1431655765) = (t32 x >>> 1) &&& ds 4 (4 * 4) (fun _ => 1) := by
    rw [t32_and, show kS32 x 1 = kS32 x (nI 1) from rfl, t32_shr x (by decide)]; rfl
  have hA : t32 (kBa x) = ds 4 (4 * 4) (pp (t32 x)) := by
    unfold kBa
    rw [t32_sub (by rw [e1]; exact hsub), e1]
    exact a1
  have lB := ds_lt (B := 16) (n := 2 * 4) (d := pq (t32 x)) (fun i _ => by have := pq_le (t32 x) i; omega)
  have hB : t32 (kBb (kBa x)) = ds 16 (2 * 4) (pq (t32 x)) := by
    have b1 := pB_v (n := 4) (by decide) hx
    unfold pB at b1
    unfold kBb
    have e2 : t32 (kBa x &&& 858993459) = ds 4 (4 * 4) (pp (t32 x)) &&& ds 16 (2 * 4) (fun _ => 3) := by rw [t32_and, hA]; rfl
    have e3 : t32 (kS32 (kBa x) 2 &&& 858993459) = (ds 4 (4 * 4) (pp (t32 x)) >>> 2) &&& ds 16 (2 * 4) (fun _ => 3) := by
      rw [t32_and, show kS32 (kBa x) 2 = kS32 (kBa x) (nI 2) from rfl, t32_shr _ (by decide), hA]; rfl
    rw [t32_add (by rw [e2, e3, b1]; exact lB), e2, e3]
    exact b1
  have hC : t32 (kBc (kBb (kBa x))) = ds 256 4 (pr (t32 x)) := by
    have c1 := pC_v (n := 4) (by decide) hx
    unfold pC at c1
    unfold kBc
    have e4 : t32 (kS32 (kBb (kBa x)) 4) = ds 16 (2 * 4) (pq (t32 x)) >>> 4 := by
      rw [show kS32 (kBb (kBa x)) 4 = kS32 (kBb (kBa x)) (nI 4) from rfl, t32_shr _ (by decide), hB]
    have e5 : t32 (kBb (kBa x) + kS32 (kBb (kBa x)) 4) = ds 16 (2 * 4) (pq (t32 x)) + ds 16 (2 * 4) (pq (t32 x)) >>> 4 := by
      have e6 : ds 16 (2 * 4) (pq (t32 x)) >>> 4 = ds 16 (2 * 4) (fun i => pq (t32 x) (i + 1)) := ds_shr (s := 4) (n := 7) (by have := pq_le (t32 x) 0; show _ < 16; omega) (pq_0 hx (by decide))
      rw [t32_add (by
        rw [e4, hB, e6, ds_add]
        exact ds_lt (B := 16) (n := 2 * 4) (fun i _ => by have h1 := pq_le (t32 x) i; have h2 := pq_le (t32 x) (i + 1); omega)), e4, hB]
    rw [t32_and, e5]
    exact c1
  unfold kBC32
  generalize kBc (kBb (kBa x)) = C at hC ⊢
  have z : ∀ i, 4 ≤ i → pr (t32 x) i = 0 := fun i hi => pr_0 hx (by omega)
  have l8 := pr_le (t32 x)
  generalize hr : pr (t32 x) = r at hC z l8
  have hD : t32 (kBd C) = ds 256 4 (fun i => r i + r (i + 1)) := by
    unfold kBd
    have e : t32 (kS32 C 8) = ds 256 4 (fun i => r (i + 1)) := by
      rw [show kS32 C 8 = kS32 C (nI 8) from rfl, t32_shr _ (by decide), hC]
      exact pD_v (k := 1) rfl z (fun i => by have := l8 i; omega)
    rw [t32_add (by
      rw [e, hC, ds_add]
      exact ds_lt (B := 256) (n := 4) (fun i _ => by have h1 := l8 i; have h2 := l8 (i + 1); omega)), e, hC, ds_add]
  have hE : t32 (kBe (kBd C)) = ds 256 4 (fun i => r i + r (i + 1) + (r (i + 2) + r (i + 2 + 1))) := by
    unfold kBe
    have e : t32 (kS32 (kBd C) 16) = ds 256 4 (fun i => r (i + 2) + r (i + 2 + 1)) := by
      rw [show kS32 (kBd C) 16 = kS32 (kBd C) (nI 16) from rfl, t32_shr _ (by decide), hD]
      exact pD_v (k := 2) (d := fun i => r i + r (i + 1)) rfl (fun i hi => by show r i + r (i + 1) = 0; rw [z i hi, z (i + 1) (by omega)]) (fun i => by have h1 := l8 i; have h2 := l8 (i + 1); show r i + r (i + 1) < 256; omega)
    rw [t32_add (by
      rw [e, hD, ds_add]
      exact ds_lt (B := 256) (n := 4) (fun i _ => by have h1 := l8 i; have h2 := l8 (i + 1); have h3 := l8 (i + 2); have h4 := l8 (i + 2 + 1); omega)), e, hD, ds_add]
  have : t32 (kBe (kBd C) &&& 63) = t32 (kBe (kBd C)) &&& (2 ^ 6 - 1) := by rw [t32_and]; rfl
  rw [this, Nat.and_two_pow_sub_one_eq_mod, hE, p_low (by decide) (by
    have h1 := l8 0; have h2 := l8 (0 + 1); have h3 := l8 (0 + 2); have h4 := l8 (0 + 2 + 1)
    show r 0 + r (0 + 1) + (r (0 + 2) + r (0 + 2 + 1)) < 64
    omega)]
  rw [show (32 : Nat) = 8 * (3 + 1) by rfl, cb_4, show (8 * 3 : Nat) = 8 * (2 + 1) by rfl, cb_4, show (8 * 2 : Nat) = 8 * (1 + 1) by rfl, cb_4, show (8 * 1 : Nat) = 8 * (0 + 1) by rfl, cb_4, hr]
  show r 0 + r 1 + (r 2 + r 3) = 0 + r 0 + r 1 + r 2 + r 3
  omega
theorem t64_pop (x : Int64) : t32 (kBC64 x) = cb (t64 x) 64 := by
  have hx : t64 x < 2 ^ (8 * 8) := t64_lt x
  have a1 := pA_v (n := 8) hx
  have hsub : (t64 x >>> 1) &&& ds 4 (4 * 8) (fun _ => 1) ≤ t64 x := Nat.le_trans Nat.and_le_left (Nat.shiftRight_le _ 1)
  have e1 : t64 (kS64 x 1 &&& 6148914691236517205) = (t64 x >>> 1) &&& ds 4 (4 * 8) (fun _ => 1) := by
    rw [t64_and, show kS64 x 1 = kS64 x (nI 1) from rfl, t64_shr x (by decide)]; rfl
  have hA : t64 (kLa x) = ds 4 (4 * 8) (pp (t64 x)) := by
    unfold kLa
    rw [t64_sub (by rw [e1]; exact hsub), e1]
    exact a1
  have lB := ds_lt (B := 16) (n := 2 * 8) (d := pq (t64 x)) (fun i _ => by have := pq_le (t64 x) i; omega)
  have hB : t64 (kLb (kLa x)) = ds 16 (2 * 8) (pq (t64 x)) := by
    have b1 := pB_v (n := 8) (by decide) hx
    unfold pB at b1
    unfold kLb
    have e2 : t64 (kLa x &&& 3689348814741910323) = ds 4 (4 * 8) (pp (t64 x)) &&& ds 16 (2 * 8) (fun _ => 3) := by rw [t64_and, hA]; rfl
    have e3 : t64 (kS64 (kLa x) 2 &&& 3689348814741910323) = (ds 4 (4 * 8) (pp (t64 x)) >>> 2) &&& ds 16 (2 * 8) (fun _ => 3) := by
      rw [t64_and, show kS64 (kLa x) 2 = kS64 (kLa x) (nI 2) from rfl, t64_shr _ (by decide), hA]; rfl
    rw [t64_add (by rw [e2, e3, b1]; exact lB), e2, e3]
    exact b1
  have hC : t64 (kLc (kLb (kLa x))) = ds 256 8 (pr (t64 x)) := by
    have c1 := pC_v (n := 8) (by decide) hx
    unfold pC at c1
    unfold kLc
    have e4 : t64 (kS64 (kLb (kLa x)) 4) = ds 16 (2 * 8) (pq (t64 x)) >>> 4 := by
      rw [show kS64 (kLb (kLa x)) 4 = kS64 (kLb (kLa x)) (nI 4) from rfl, t64_shr _ (by decide), hB]
    have e5 : t64 (kLb (kLa x) + kS64 (kLb (kLa x)) 4) = ds 16 (2 * 8) (pq (t64 x)) + ds 16 (2 * 8) (pq (t64 x)) >>> 4 := by
      have e6 : ds 16 (2 * 8) (pq (t64 x)) >>> 4 = ds 16 (2 * 8) (fun i => pq (t64 x) (i + 1)) := ds_shr (s := 4) (n := 15) (by have := pq_le (t64 x) 0; show _ < 16; omega) (pq_0 hx (by decide))
      rw [t64_add (by
        rw [e4, hB, e6, ds_add]
        exact ds_lt (B := 16) (n := 2 * 8) (fun i _ => by have h1 := pq_le (t64 x) i; have h2 := pq_le (t64 x) (i + 1); omega)), e4, hB]
    rw [t64_and, e5]
    exact c1
  unfold kBC64
  generalize kLc (kLb (kLa x)) = C at hC ⊢
  have z : ∀ i, 8 ≤ i → pr (t64 x) i = 0 := fun i hi => pr_0 hx (by omega)
  have l8 := pr_le (t64 x)
  generalize hr : pr (t64 x) = r at hC z l8
  have hD : t64 (kLd C) = ds 256 8 (fun i => r i + r (i + 1)) := by
    unfold kLd
    have e : t64 (kS64 C 8) = ds 256 8 (fun i => r (i + 1)) := by
      rw [show kS64 C 8 = kS64 C (nI 8) from rfl, t64_shr _ (by decide), hC]
      exact pD_v (k := 1) rfl z (fun i => by have := l8 i; omega)
    rw [t64_add (by
      rw [e, hC, ds_add]
      exact ds_lt (B := 256) (n := 8) (fun i _ => by have h1 := l8 i; have h2 := l8 (i + 1); omega)), e, hC, ds_add]
  have hE : t64 (kLe (kLd C)) = ds 256 8 (fun i => r i + r (i + 1) + (r (i + 2) + r (i + 2 + 1))) := by
    unfold kLe
    have e : t64 (kS64 (kLd C) 16) = ds 256 8 (fun i => r (i + 2) + r (i + 2 + 1)) := by
      rw [show kS64 (kLd C) 16 = kS64 (kLd C) (nI 16) from rfl, t64_shr _ (by decide), hD]
      exact pD_v (k := 2) (d := fun i => r i + r (i + 1)) rfl (fun i hi => by show r i + r (i + 1) = 0; rw [z i hi, z (i + 1) (by omega)]) (fun i => by have h1 := l8 i; have h2 := l8 (i + 1); show r i + r (i + 1) < 256; omega)
    rw [t64_add (by
      rw [e, hD, ds_add]
      exact ds_lt (B := 256) (n := 8) (fun i _ => by have h1 := l8 i; have h2 := l8 (i + 1); have h3 := l8 (i + 2); have h4 := l8 (i + 2 + 1); omega)), e, hD, ds_add]
  have hF : t64 (kLf (kLe (kLd C))) = ds 256 8 (fun i => r i + r (i + 1) + (r (i + 2) + r (i + 2 + 1)) + (r (i + 4) + r (i + 4 + 1) + (r (i + 4 + 2) + r (i + 4 + 2 + 1)))) := by
    unfold kLf
    have e : t64 (kS64 (kLe (kLd C)) 32) = ds 256 8 (fun i => r (i + 4) + r (i + 4 + 1) + (r (i + 4 + 2) + r (i + 4 + 2 + 1))) := by
      rw [show kS64 (kLe (kLd C)) 32 = kS64 (kLe (kLd C)) (nI 32) from rfl, t64_shr _ (by decide), hE]
      exact pD_v (k := 4) (d := fun i => r i + r (i + 1) + (r (i + 2) + r (i + 2 + 1))) rfl (fun i hi => by show r i + r (i + 1) + (r (i + 2) + r (i + 2 + 1)) = 0; rw [z i hi, z (i + 1) (by omega), z (i + 2) (by omega), z (i + 2 + 1) (by omega)]) (fun i => by have h1 := l8 i; have h2 := l8 (i + 1); have h3 := l8 (i + 2); have h4 := l8 (i + 2 + 1); show r i + r (i + 1) + (r (i + 2) + r (i + 2 + 1)) < 256; omega)
    rw [t64_add (by
      rw [e, hE, ds_add]
      exact ds_lt (B := 256) (n := 8) (fun i _ => by have h1 := l8 i; have h2 := l8 (i + 1); have h3 := l8 (i + 2); have h4 := l8 (i + 2 + 1); have h5 := l8 (i + 4); have h6 := l8 (i + 4 + 1); have h7 := l8 (i + 4 + 2); have h8 := l8 (i + 4 + 2 + 1); omega)), e, hE, ds_add]
  have : t32 (Int64.toInt32 (kLf (kLe (kLd C))) &&& 127) = t32 (Int64.toInt32 (kLf (kLe (kLd C)))) &&& (2 ^ 7 - 1) := by rw [t32_and]; rfl
  have e32 : t32 (Int64.toInt32 (kLf (kLe (kLd C)))) = t64 (kLf (kLe (kLd C))) % 2 ^ 32 := by
    unfold t32 t64
    rw [Int64.toBitVec_toInt32, BitVec.signExtend_eq_setWidth_of_le _ (by decide), BitVec.toNat_setWidth]
  rw [this, Nat.and_two_pow_sub_one_eq_mod, e32, Nat.mod_mod_of_dvd _ (by decide), hF, p_low (by decide) (by
    have h1 := l8 0; have h2 := l8 (0 + 1); have h3 := l8 (0 + 2); have h4 := l8 (0 + 2 + 1); have h5 := l8 (0 + 4); have h6 := l8 (0 + 4 + 1); have h7 := l8 (0 + 4 + 2); have h8 := l8 (0 + 4 + 2 + 1)
    show r 0 + r (0 + 1) + (r (0 + 2) + r (0 + 2 + 1)) + (r (0 + 4) + r (0 + 4 + 1) + (r (0 + 4 + 2) + r (0 + 4 + 2 + 1))) < 128
    omega)]
  rw [show (64 : Nat) = 8 * (7 + 1) by rfl, cb_4, show (8 * 7 : Nat) = 8 * (6 + 1) by rfl, cb_4, show (8 * 6 : Nat) = 8 * (5 + 1) by rfl, cb_4, show (8 * 5 : Nat) = 8 * (4 + 1) by rfl, cb_4, show (8 * 4 : Nat) = 8 * (3 + 1) by rfl, cb_4, show (8 * 3 : Nat) = 8 * (2 + 1) by rfl, cb_4, show (8 * 2 : Nat) = 8 * (1 + 1) by rfl, cb_4, show (8 * 1 : Nat) = 8 * (0 + 1) by rfl, cb_4, hr]
  show r 0 + r 1 + (r 2 + r 3) + (r 4 + r 5 + (r 6 + r 7)) = 0 + r 0 + r 1 + r 2 + r 3 + r 4 + r 5 + r 6 + r 7
  omega
