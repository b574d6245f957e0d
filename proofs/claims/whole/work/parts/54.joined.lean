/-! settle, the joined ones -/
theorem kSet_n {I : k_I} {i k : Nat} (hk : k < 3) : kSet I i (nI k) = I 9 i k := by
  unfold kSet
  rw [if_neg (nI_pos (by omega)), if_neg (show ¬ (3 : Int32) ≤ nI k from nI_ge (a := k) (b := 3) hk (by decide)), nI_clamp (by omega)]
theorem kGatS_v {i j : Nat} (hij : j ≠ i) {I : k_I} : (∀ k, k < 3 → kGatS i j I 9 i k = I 9 i k &&& I 9 j k) ∧ (∀ m, m ≠ i → kGatS i j I 9 m = I 9 m) ∧ (∀ k, ¬ k < 3 → kGatS i j I 9 i k = I 9 i k) := by
  have key := kLoop_i0 (step := fun a I => k_up I 9 i (upd (I 9 i) a (I 9 i a &&& kSet I j (nI a)))) (fun n I' => (∀ k, k < n → I' 9 i k = I 9 i k &&& I 9 j k) ∧ (∀ m, m ≠ i → I' 9 m = I 9 m) ∧ (∀ k, ¬ k < n → I' 9 i k = I 9 i k)) 3 I ⟨fun k hk => absurd hk (Nat.not_lt_zero _), fun _ _ => rfl, fun _ _ => rfl⟩ (by
    rintro a I' ha ⟨h1, h2, h3⟩
    refine ⟨fun k hk => ?_, fun m hm => by rw [k_up_i hm]; exact h2 m hm, fun k hk => ?_⟩
    · rw [k_up_s]
      by_cases hka : k = a
      · subst hka
        rw [upd_s, kSet_n ha, h2 j hij, h3 k (Nat.lt_irrefl _)]
      · rw [upd_n hka]; exact h1 k (by omega)
    · rw [k_up_s, upd_n (by omega)]; exact h3 k (by omega))
  exact key
theorem kClrS_v {i : Nat} {I : k_I} : (∀ k, k < 3 → kClrS i I 9 i k = kAllV (nI k)) ∧ (∀ m, m ≠ i → kClrS i I 9 m = I 9 m) := by
  have key := kLoop_i0 (step := fun a I => k_up I 9 i (upd (I 9 i) a (kAllV (nI a)))) (fun n I' => (∀ k, k < n → I' 9 i k = kAllV (nI k)) ∧ (∀ m, m ≠ i → I' 9 m = I 9 m)) 3 I ⟨fun k hk => absurd hk (Nat.not_lt_zero _), fun _ _ => rfl⟩ (by
    rintro a I' ha ⟨h1, h2⟩
    refine ⟨fun k hk => ?_, fun m hm => by rw [k_up_i hm]; exact h2 m hm⟩
    rw [k_up_s]
    by_cases hka : k = a
    · subst hka; rw [upd_s]
    · rw [upd_n hka]; exact h1 k (by omega))
  exact key
/-- what gathering into i leaves as it is -/
def k_FJ (i : Nat) (s r : k_IJ) : Prop := (∀ c, c ≠ 8 → c ≠ 9 → r.1 c = s.1 c) ∧ (∀ c, c ≠ 8 → r.2 c = s.2 c) ∧ (∀ m, m ≠ i → r.1 8 m = s.1 8 m ∧ r.1 9 m = s.1 9 m ∧ r.2 8 m = s.2 8 m) ∧ (∀ k, k ≠ 6 → k ≠ 11 → r.1 8 i k = s.1 8 i k) ∧ ∀ k, k ≠ 5 → k ≠ 10 → r.2 8 i k = s.2 8 i k
theorem k_FJ.tr {i : Nat} {s r q : k_IJ} (h : k_FJ i s r) (g : k_FJ i r q) : k_FJ i s q :=
  ⟨fun c h8 h9 => (g.1 c h8 h9).trans (h.1 c h8 h9), fun c h8 => (g.2.1 c h8).trans (h.2.1 c h8), fun m hm => ⟨(g.2.2.1 m hm).1.trans (h.2.2.1 m hm).1, (g.2.2.1 m hm).2.1.trans (h.2.2.1 m hm).2.1, (g.2.2.1 m hm).2.2.trans (h.2.2.1 m hm).2.2⟩, fun k h6 h11 => (g.2.2.2.1 k h6 h11).trans (h.2.2.2.1 k h6 h11), fun k h5 h10 => (g.2.2.2.2 k h5 h10).trans (h.2.2.2.2 k h5 h10)⟩
theorem kClr_v (i : Nat) (s : k_IJ) : k_FJ i s (kClr i s.1, kClrJ i s.2) ∧ (∀ k, k < 3 → kClr i s.1 9 i k = kAllV (nI k)) ∧ kClr i s.1 8 i 6 = 0 ∧ kClr i s.1 8 i 11 = 0 ∧ kClrJ i s.2 8 i 5 = 0 := by
  obtain ⟨h1, h2⟩ := kClrS_v (i := i) (I := s.1)
  have e9 : kClr i s.1 9 = kClrS i s.1 9 := by
    unfold kClr kClr2 kClr1
    rw [k_up_C (by decide), k_up_C (by decide)]
  have e8 : ∀ m, m ≠ i → kClr i s.1 8 m = s.1 8 m := fun m hm => by
    show k_up (kClr1 i (kClrS i s.1)) 8 i _ 8 m = _
    rw [k_up_i hm]
    show k_up (kClrS i s.1) 8 i _ 8 m = _
    rw [k_up_i hm, kClrS_C (by decide)]
  have e8i : kClr i s.1 8 i = upd (upd (s.1 8 i) 6 0) 11 0 := by
    show k_up (kClr1 i (kClrS i s.1)) 8 i _ 8 i = _
    rw [k_up_s]
    show upd (k_up (kClrS i s.1) 8 i _ 8 i) 11 0 = _
    rw [k_up_s, kClrS_C (by decide)]
  refine ⟨⟨fun c h8 h9 => kClr_C h8 h9, fun c h8 => k_up_C h8, fun m hm => ⟨e8 m hm, by show kClr i s.1 9 m = _; rw [e9]; exact h2 m hm, k_up_i hm⟩, fun k h6 h11 => by show kClr i s.1 8 i k = _; rw [e8i, upd_n h11, upd_n h6], fun k h5 _ => by show k_up s.2 8 i _ 8 i k = _; rw [k_up_s, updL_n h5]⟩, fun k hk => by rw [e9]; exact h1 k hk, by rw [e8i, upd_n (by decide), upd_s], by rw [e8i, upd_s], by show k_up s.2 8 i _ 8 i 5 = _; rw [k_up_s, updL_s]⟩
theorem kGat_v {i j : Nat} (hij : j ≠ i) (s : k_IJ) : k_FJ i s (kGat i j s.1, kGatJ i j s.2) ∧ (∀ k, k < 3 → kGat i j s.1 9 i k = s.1 9 i k &&& s.1 9 j k) ∧ kGat i j s.1 8 i 6 = (s.1 8 i 6 ||| s.1 8 j 6) ∧ kGat i j s.1 8 i 11 = (if s.1 8 i 11 = 0 then (if s.1 8 j 11 = 0 then 0 else 1) else 1) ∧ kGatJ i j s.2 8 i 5 = (s.2 8 i 5 ||| s.2 8 j 5) := by
  obtain ⟨h1, h2, -⟩ := kGatS_v hij (I := s.1)
  have e9 : kGat i j s.1 9 = kGatS i j s.1 9 := by
    unfold kGat kGat2 kGat1
    rw [k_up_C (by decide), k_up_C (by decide)]
  have e1 : kGat1 i j (kGatS i j s.1) 8 i = upd (s.1 8 i) 6 (s.1 8 i 6 ||| s.1 8 j 6) := by
    show k_up (kGatS i j s.1) 8 i _ 8 i = _
    rw [k_up_s, kGatS_C (by decide)]
  have e1m : ∀ m, m ≠ i → kGat1 i j (kGatS i j s.1) 8 m = s.1 8 m := fun m hm => by
    show k_up (kGatS i j s.1) 8 i _ 8 m = _
    rw [k_up_i hm, kGatS_C (by decide)]
  have e8 : ∀ m, m ≠ i → kGat i j s.1 8 m = s.1 8 m := fun m hm => by
    show k_up (kGat1 i j (kGatS i j s.1)) 8 i _ 8 m = _
    rw [k_up_i hm]; exact e1m m hm
  have e8i : kGat i j s.1 8 i = upd (upd (s.1 8 i) 6 (s.1 8 i 6 ||| s.1 8 j 6)) 11 (if s.1 8 i 11 = 0 then (if s.1 8 j 11 = 0 then 0 else 1) else 1) := by
    show k_up (kGat1 i j (kGatS i j s.1)) 8 i _ 8 i = _
    rw [k_up_s, e1, e1m j hij, upd_n (by decide)]
  refine ⟨⟨fun c h8 h9 => kGat_C h8 h9, fun c h8 => k_up_C h8, fun m hm => ⟨e8 m hm, by show kGat i j s.1 9 m = _; rw [e9]; exact h2 m hm, k_up_i hm⟩, fun k h6 h11 => by show kGat i j s.1 8 i k = _; rw [e8i, upd_n h11, upd_n h6], fun k h5 _ => by show k_up s.2 8 i _ 8 i k = _; rw [k_up_s, updL_n h5]⟩, fun k hk => by rw [e9]; exact h1 k hk, by rw [e8i, upd_n (by decide), upd_s], by rw [e8i, upd_s], by show k_up s.2 8 i _ 8 i 5 = _; rw [k_up_s, updL_s]⟩
/-- the closed form of what is gathered into i, out of the places below n with Q -/
abbrev k_GV (n i : Nat) (Q : Nat → Prop) (s r : k_IJ) : Prop := (∀ b, bl (r.2 8 i 5) b = true ↔ ∃ p, p < n ∧ Q p ∧ bl (s.2 8 p 5) b = true) ∧ (∀ k, k < 3 → ∀ b, bt (r.1 9 i k) b = true ↔ bt (kAllV (nI k)) b = true ∧ ∀ p, p < n → Q p → bt (s.1 9 p k) b = true) ∧ (∀ b, bt (r.1 8 i 6) b = true ↔ ∃ p, p < n ∧ Q p ∧ bt (s.1 8 p 6) b = true) ∧ ((r.1 8 i 11 = 0 ∨ r.1 8 i 11 = 1) ∧ (¬ r.1 8 i 11 = 0 ↔ ∃ p, p < n ∧ Q p ∧ ¬ s.1 8 p 11 = 0))
theorem k_GV.fw {n i : Nat} {Q : Nat → Prop} {s r : k_IJ} (h_ : k_GV n i Q s r) : ∀ b, bl (r.2 8 i 5) b = true ↔ ∃ p, p < n ∧ Q p ∧ bl (s.2 8 p 5) b = true := h_.1
theorem k_GV.fs {n i : Nat} {Q : Nat → Prop} {s r : k_IJ} (h_ : k_GV n i Q s r) : ∀ k, k < 3 → ∀ b, bt (r.1 9 i k) b = true ↔ bt (kAllV (nI k)) b = true ∧ ∀ p, p < n → Q p → bt (s.1 9 p k) b = true := h_.2.1
theorem k_GV.ft {n i : Nat} {Q : Nat → Prop} {s r : k_IJ} (h_ : k_GV n i Q s r) : ∀ b, bt (r.1 8 i 6) b = true ↔ ∃ p, p < n ∧ Q p ∧ bt (s.1 8 p 6) b = true := h_.2.2.1
theorem k_GV.fd {n i : Nat} {Q : Nat → Prop} {s r : k_IJ} (h_ : k_GV n i Q s r) : (r.1 8 i 11 = 0 ∨ r.1 8 i 11 = 1) ∧ (¬ r.1 8 i 11 = 0 ↔ ∃ p, p < n ∧ Q p ∧ ¬ s.1 8 p 11 = 0) := h_.2.2.2
theorem k_GV.skip {n i : Nat} {Q : Nat → Prop} {s r : k_IJ} (h : k_GV n i Q s r) (hq : ¬ Q n) : k_GV (n + 1) i Q s r := by
  have e : ∀ R : Nat → Prop, (∃ p, p < n + 1 ∧ Q p ∧ R p) ↔ ∃ p, p < n ∧ Q p ∧ R p := fun R => by
    constructor
    · rintro ⟨p, hp, hq1, hr⟩
      refine ⟨p, ?_, hq1, hr⟩
      rcases Nat.lt_or_ge p n with h1 | h1
      · exact h1
      · exact absurd (show Q n by rw [show n = p by omega]; exact hq1) hq
    · rintro ⟨p, hp, hq1, hr⟩
      exact ⟨p, by omega, hq1, hr⟩
  refine ⟨fun b => (h.fw b).trans (e _).symm, fun k hk b => (h.fs k hk b).trans ⟨fun ⟨h1, h2⟩ => ⟨h1, fun p hp hqp => ?_⟩, fun ⟨h1, h2⟩ => ⟨h1, fun p hp hqp => h2 p (by omega) hqp⟩⟩, fun b => (h.ft b).trans (e _).symm, h.fd.1, h.fd.2.trans (e _).symm⟩
  rcases Nat.lt_or_ge p n with h3 | h3
  · exact h2 p h3 hqp
  · exact absurd (show Q n by rw [show n = p by omega]; exact hqp) hq
theorem k_ex1 {n : Nat} {Q R : Nat → Prop} (hq : Q n) : (∃ p, p < n + 1 ∧ Q p ∧ R p) ↔ (∃ p, p < n ∧ Q p ∧ R p) ∨ R n := by
  constructor
  · rintro ⟨p, hp, hq1, hr⟩
    rcases Nat.lt_or_ge p n with h1 | h1
    · exact Or.inl ⟨p, h1, hq1, hr⟩
    · rw [show p = n by omega] at hr; exact Or.inr hr
  · rintro (⟨p, hp, hq1, hr⟩ | hr)
    · exact ⟨p, by omega, hq1, hr⟩
    · exact ⟨n, by omega, hq, hr⟩
theorem k_GV.take {n i : Nat} {Q : Nat → Prop} {s r : k_IJ} (hf : k_FJ i s r) (hn : n ≠ i) (h : k_GV n i Q s r) (hq : Q n) : k_GV (n + 1) i Q s (kGat i n r.1, kGatJ i n r.2) := by
  obtain ⟨-, g1, g2, g3, g4⟩ := kGat_v hn r
  obtain ⟨m8, m9, mj⟩ := hf.2.2.1 n hn
  refine ⟨fun b => ?_, fun k hk b => ?_, fun b => ?_, ?_, ?_⟩
  · show bl (kGatJ i n r.2 8 i 5) b = true ↔ _
    rw [g4, l_or, Bool.or_eq_true, h.fw b, k_ex1 hq, mj]
  · show bt (kGat i n r.1 9 i k) b = true ↔ _
    rw [g1 k hk, b_and, Bool.and_eq_true, h.fs k hk b, m9]
    constructor
    · rintro ⟨⟨h1, h2⟩, h3⟩
      refine ⟨h1, fun p hp hqp => ?_⟩
      rcases Nat.lt_or_ge p n with h4 | h4
      · exact h2 p h4 hqp
      · rw [show p = n by omega]; exact h3
    · rintro ⟨h1, h2⟩
      exact ⟨⟨h1, fun p hp hqp => h2 p (by omega) hqp⟩, h2 n (by omega) hq⟩
  · show bt (kGat i n r.1 8 i 6) b = true ↔ _
    rw [g2, b_or, Bool.or_eq_true, h.ft b, k_ex1 hq, m8]
  · show (kGat i n r.1 8 i 11 = 0 ∨ kGat i n r.1 8 i 11 = 1)
    rw [g3]
    split
    · split
      · exact Or.inl rfl
      · exact Or.inr rfl
    · exact Or.inr rfl
  · show ¬ kGat i n r.1 8 i 11 = 0 ↔ _
    rw [k_ex1 hq, ← h.fd.2, g3, ← m8]
    by_cases h1 : r.1 8 i 11 = 0
    · rw [if_pos h1]
      by_cases h2 : r.1 8 n 11 = 0
      · rw [if_pos h2]; simp [h1, h2]
      · rw [if_neg h2]; simp [h1, h2]
    · rw [if_neg h1]; simp [h1]
theorem kSJ_v {nA i : Nat} {s : k_IJ} (hA : nA ≤ 24) (hj : s.1 8 i 1 = 1) : k_FJ i s (kSJ nA i s) ∧ k_GV nA i (fun p => s.1 8 p 1 = 0 ∧ bt (s.1 8 i 12) p = true) s (kSJ nA i s) ∧ (kSJ nA i s).2 8 i 10 = kFold (s.1 2 0) ((kSJ nA i s).2 8 i 5) := by
  obtain ⟨c1, c2, c3, c4, c5⟩ := kClr_v i s
  have key := kLoop_i0 (step := kSJ1 i) (fun n r => k_FJ i s r ∧ k_GV n i (fun p => s.1 8 p 1 = 0 ∧ bt (s.1 8 i 12) p = true) s r) nA (kClr i s.1, kClrJ i s.2) ⟨c1, ⟨fun b => by
      show bl (kClrJ i s.2 8 i 5) b = true ↔ _
      rw [c5, l_0]; simp, fun k hk b => by
      show bt (kClr i s.1 9 i k) b = true ↔ _
      rw [c2 k hk]; simp, fun b => by
      show bt (kClr i s.1 8 i 6) b = true ↔ _
      rw [c3, b_0]; simp, Or.inl c4, by
      show ¬ kClr i s.1 8 i 11 = 0 ↔ _
      rw [c4]; simp⟩⟩ (by
    rintro n r hn ⟨h1, h2⟩
    have e12 : r.1 8 i 12 = s.1 8 i 12 := h1.2.2.2.1 12 (by decide) (by decide)
    have hk1 : r.1 8 n 1 = s.1 8 n 1 := by
      by_cases hni : n = i
      · subst hni; exact h1.2.2.2.1 1 (by decide) (by decide)
      · rw [(h1.2.2.1 n hni).1]
    unfold kSJ1
    rw [hk1, e12]
    by_cases hp : s.1 8 n 1 = 0
    · have hni : n ≠ i := fun e => by rw [e, hj] at hp; exact absurd hp (by decide)
      rw [if_pos hp]
      by_cases hb : s.1 8 i 12 &&& kBit (nI n) = 0
      · rw [if_pos hb]
        have hb2 := (b_and_bit _ (by omega)).mp hb
        exact ⟨h1, h2.skip (fun h => by rw [hb2] at h; cases h.2)⟩
      · rw [if_neg hb]
        have hb2 : bt (s.1 8 i 12) n = true := by
          cases hc : bt (s.1 8 i 12) n with
          | true => rfl
          | false => exact absurd ((b_and_bit _ (by omega)).mpr hc) hb
        exact ⟨h1.tr (kGat_v hni r).1, h2.take h1 hni ⟨hp, hb2⟩⟩
    · rw [if_neg hp]
      exact ⟨h1, h2.skip (fun h => hp h.1)⟩)
  unfold kSJ
  rw [if_pos hj]
  obtain ⟨k1, k2⟩ := key
  generalize kLoop (kSJ1 i) nA 0 (kClr i s.1, kClrJ i s.2) = r at k1 k2 ⊢
  unfold kSJf
  refine ⟨⟨k1.1, fun c h8 => (k_up_C h8).trans (k1.2.1 c h8), fun m hm => ⟨(k1.2.2.1 m hm).1, (k1.2.2.1 m hm).2.1, (k_up_i hm).trans (k1.2.2.1 m hm).2.2⟩, k1.2.2.2.1, fun k h5 h10 => ?_⟩, ⟨fun b => ?_, k2.fs, k2.ft, k2.fd⟩, ?_⟩
  · show k_up r.2 8 i _ 8 i k = _
    rw [k_up_s, updL_n h10]; exact k1.2.2.2.2 k h5 h10
  · show bl (k_up r.2 8 i _ 8 i 5) b = true ↔ _
    rw [k_up_s, updL_n (by decide)]; exact k2.fw b
  · show k_up r.2 8 i _ 8 i 10 = kFold (s.1 2 0) (k_up r.2 8 i _ 8 i 5)
    rw [k_up_s, updL_s, updL_n (by decide), k1.1 2 (by decide) (by decide)]
/-- all joined ones -/
def k_Q0 (s : k_IJ) (i p : Nat) : Prop := s.1 8 p 1 = 0 ∧ bt (s.1 8 i 12) p = true
theorem kSJall {nA : Nat} {s : k_IJ} (hA : nA ≤ 24) : (∀ c, c ≠ 8 → c ≠ 9 → (kLoop (kSJ nA) nA 0 s).1 c = s.1 c) ∧ (∀ c, c ≠ 8 → (kLoop (kSJ nA) nA 0 s).2 c = s.2 c) ∧ (∀ i, ¬ s.1 8 i 1 = 1 → (kLoop (kSJ nA) nA 0 s).1 8 i = s.1 8 i ∧ (kLoop (kSJ nA) nA 0 s).1 9 i = s.1 9 i ∧ (kLoop (kSJ nA) nA 0 s).2 8 i = s.2 8 i) ∧ ∀ i, i < nA → (∀ k, k ≠ 6 → k ≠ 11 → (kLoop (kSJ nA) nA 0 s).1 8 i k = s.1 8 i k) ∧ (s.1 8 i 1 = 1 → k_GV nA i (k_Q0 s i) s (kLoop (kSJ nA) nA 0 s) ∧ (kLoop (kSJ nA) nA 0 s).2 8 i 10 = kFold (s.1 2 0) ((kLoop (kSJ nA) nA 0 s).2 8 i 5)) := by
  have key := kLoop_i0 (step := kSJ nA) (fun n r => (∀ c, c ≠ 8 → c ≠ 9 → r.1 c = s.1 c) ∧ (∀ c, c ≠ 8 → r.2 c = s.2 c) ∧ (∀ i, (n ≤ i ∨ ¬ s.1 8 i 1 = 1) → r.1 8 i = s.1 8 i ∧ r.1 9 i = s.1 9 i ∧ r.2 8 i = s.2 8 i) ∧ ∀ i, i < n → (∀ k, k ≠ 6 → k ≠ 11 → r.1 8 i k = s.1 8 i k) ∧ (s.1 8 i 1 = 1 → k_GV nA i (k_Q0 s i) s r ∧ r.2 8 i 10 = kFold (s.1 2 0) (r.2 8 i 5))) nA s ⟨fun _ _ _ => rfl, fun _ _ => rfl, fun _ _ => ⟨rfl, rfl, rfl⟩, fun i hi => absurd hi (Nat.not_lt_zero _)⟩ (by
    rintro n r hn ⟨h1, h2, h3, h4⟩
    have hr := h3 n (Or.inl (Nat.le_refl _))
    by_cases hj : s.1 8 n 1 = 1
    · have hj2 : r.1 8 n 1 = 1 := by rw [hr.1]; exact hj
      obtain ⟨v1, v2, v3⟩ := kSJ_v hA hj2
      have pl : ∀ p, s.1 8 p 1 = 0 → r.1 8 p = s.1 8 p ∧ r.1 9 p = s.1 9 p ∧ r.2 8 p = s.2 8 p := fun p hp => h3 p (Or.inr (by rw [hp]; decide))
      have hq : ∀ p, (r.1 8 p 1 = 0 ∧ bt (r.1 8 n 12) p = true) ↔ k_Q0 s n p := fun p => by
        unfold k_Q0
        rw [hr.1]
        constructor
        · rintro ⟨a, b⟩
          refine ⟨?_, b⟩
          by_cases hlt : p < n
          · rw [← (h4 p hlt).1 1 (by decide) (by decide)]; exact a
          · rw [← (h3 p (Or.inl (by omega))).1]; exact a
        · rintro ⟨a, b⟩
          exact ⟨by rw [(pl p a).1]; exact a, b⟩
      refine ⟨fun c h8 h9 => (v1.1 c h8 h9).trans (h1 c h8 h9), fun c h8 => (v1.2.1 c h8).trans (h2 c h8), fun i hi => ?_, fun i hi => ⟨fun k h6 h11 => ?_, fun hji => ?_⟩⟩
      · have hin : i ≠ n := by
          rintro rfl
          rcases hi with hi | hi
          · omega
          · exact hi hj
        have h3i := h3 i (by rcases hi with hi | hi; exact Or.inl (by omega); exact Or.inr hi)
        have v := v1.2.2.1 i hin
        exact ⟨v.1.trans h3i.1, v.2.1.trans h3i.2.1, v.2.2.trans h3i.2.2⟩
      · by_cases hin : i = n
        · subst hin; rw [v1.2.2.2.1 k h6 h11, hr.1]
        · rw [(v1.2.2.1 i hin).1]; exact (h4 i (by omega)).1 k h6 h11
      · by_cases hin : i = n
        · subst hin
          refine ⟨⟨fun b => (v2.fw b).trans ?_, fun k hk b => (v2.fs k hk b).trans ?_, fun b => (v2.ft b).trans ?_, v2.fd.1, v2.fd.2.trans ?_⟩, ?_⟩
          · exact exists_congr fun p => and_congr_right fun _ => by
              rw [hq p]
              exact and_congr_right fun hp => by rw [(pl p hp.1).2.2]
          · exact and_congr_right fun _ => forall_congr' fun p => forall_congr' fun _ => by
              rw [hq p]
              exact ⟨fun h hp => by rw [← (pl p hp.1).2.1]; exact h hp, fun h hp => by rw [(pl p hp.1).2.1]; exact h hp⟩
          · exact exists_congr fun p => and_congr_right fun _ => by
              rw [hq p]
              exact and_congr_right fun hp => by rw [(pl p hp.1).1]
          · exact exists_congr fun p => and_congr_right fun _ => by
              rw [hq p]
              exact and_congr_right fun hp => by rw [(pl p hp.1).1]
          · rw [v3, h1 2 (by decide) (by decide)]
        · have v := v1.2.2.1 i hin
          obtain ⟨g, gf⟩ := (h4 i (by omega)).2 hji
          exact ⟨⟨fun b => by rw [v.2.2]; exact g.fw b, fun k hk b => by rw [v.2.1]; exact g.fs k hk b, fun b => by rw [v.1]; exact g.ft b, by rw [v.1]; exact g.fd⟩, by rw [v.2.2]; exact gf⟩
    · have e : kSJ nA n r = r := by unfold kSJ; rw [if_neg (by rw [hr.1]; exact hj)]
      rw [e]
      refine ⟨h1, h2, fun i hi => ?_, fun i hi => ?_⟩
      · exact h3 i (by rcases hi with hi | hi; exact Or.inl (by omega); exact Or.inr hi)
      · by_cases hin : i = n
        · subst hin
          exact ⟨fun k _ _ => by rw [hr.1], fun h => absurd h hj⟩
        · exact h4 i (by omega))
  exact ⟨key.1, key.2.1, fun i hi => key.2.2.1 i (Or.inr hi), key.2.2.2⟩
