/-! heaps counted alike -/
theorem kVain_v {nA nK : Nat} {I : k_I} {J : k_J} (h30 : nK ≤ 30) {y : Nat} (hy : y < 32) : bt (kVain nA nK I J) y = true ↔ h_V nA nK I J y := by
  have key := kLoop_i0 (step := fun k v => if kSome nA I J (J 11 k 2) k then v else v ||| kBit (nI k)) (fun m v => ∀ y, y < 32 → (bt v y = true ↔ y < m ∧ kSome nA I J (J 11 y 2) y = false)) nK (0 : Int32) (fun y _ => ⟨fun z => (by rw [b_0] at z; cases z), fun z => absurd z.1 (Nat.not_lt_zero _)⟩) (by
    intro m v hm h y hy
    by_cases hs : kSome nA I J (J 11 m 2) m = true
    · simp only [if_pos hs]
      rw [h y hy]
      constructor
      · exact fun z => ⟨by omega, z.2⟩
      · rintro ⟨z1, z2⟩
        refine ⟨?_, z2⟩
        rcases Nat.lt_or_ge y m with q | q
        · exact q
        · rw [show y = m by omega, hs] at z2; cases z2
    · simp only [if_neg hs]
      rw [b_or, b_bit (by omega) hy, Bool.or_eq_true, h y hy, decide_eq_true_eq]
      constructor
      · rintro (z | rfl)
        · exact ⟨by omega, z.2⟩
        · exact ⟨by omega, by simpa using hs⟩
      · rintro ⟨z1, z2⟩
        by_cases q : y = m
        · exact Or.inr q
        · exact Or.inl ⟨by omega, z2⟩)
  exact key y hy
theorem RR.hc {nA nK : Nat} {E : Nat → Nat} {I : k_I} {J : k_J} (h : RR nA nK E I J) : h_C nK I J (kVain nA nK I J) (h_V nA nK I J) (h_N I J) :=
  ⟨h.ms.2.2.2.1, fun y hy => kVain_v h.ms.2.2.2.1 hy, fun y z => z.1, fun a b ha hb => by
    unfold h_N
    rw [h.raw.near.1, h.ask11 ha, h.ask11 hb, kFar_m h.raw, Classical.not_not], h_N.sy⟩
/-- f: a label is the least of its heap -/
abbrev h_F (nK : Nat) (V : Nat → Prop) (N : Nat → Nat → Prop) (f : Nat → Int32) : Prop := (∀ q, V q → ∃ l, f q = nI l ∧ V l ∧ h_R V N q l ∧ ∀ r, h_R V N q r → l ≤ r) ∧ (∀ q, q < nK → ¬ V q → f q = -1)
theorem h_F.yes {nK : Nat} {V : Nat → Prop} {N : Nat → Nat → Prop} {f : Nat → Int32} (h_ : h_F nK V N f) : ∀ q, V q → ∃ l, f q = nI l ∧ V l ∧ h_R V N q l ∧ ∀ r, h_R V N q r → l ≤ r := h_.1
theorem h_F.no {nK : Nat} {V : Nat → Prop} {N : Nat → Nat → Prop} {f : Nat → Int32} (h_ : h_F nK V N f) : ∀ q, q < nK → ¬ V q → f q = -1 := h_.2
theorem mFH_F {nA nK : Nat} {E : Nat → Nat} {I : k_I} {J : k_J} (h : RR nA nK E I J) : k_Wk2 nA I J (mFH E nA nK (I, J)) ∧ h_F nK (h_V nA nK I J) (h_N I J) ((mFH E nA nK (I, J)).1 44 0) := by
  have k := mWork_eq h
  have h30 := h.ms.2.2.2.1
  unfold mFH mFHI
  generalize mWork E nA (I, J) = W at k
  have e0 : ∀ c, c ≠ 44 → mHeap0 nA nK W.2 W.1 c = W.1 c := fun c hc => mHeap0_C hc
  refine ⟨k.x44 fun c hc => (mHeapsF_C hc 1000 _).trans (e0 c hc), ?_⟩
  have l0 := mHeap0_L h k
  have hm := m_H_mu h30 (mHeap0_H (mA := nA) (mK := nK) (J := W.2) (I := W.1))
  have x13 : mHeap0 nA nK W.2 W.1 13 = I 13 := (e0 13 (by decide)).trans (k.lo 13 (by decide))
  have x20 : mHeap0 nA nK W.2 W.1 20 = I 20 := (e0 20 (by decide)).trans (k.lo 20 (by decide))
  obtain ⟨l1, l2⟩ := mHeapsF_v h30 (k.loJ 37 (by decide)) 1000 (mHeap0 nA nK W.2 W.1) hm x13 x20 l0
  exact ⟨fun q hq => h_L.fix h30 (fun q z => z.1) ((mHeapsF_C (by decide) 1000 _).trans x13) ((mHeapsF_C (by decide) 1000 _).trans x20) l1 l2 hq, fun q hq hv => (l1 q hq).2 hv⟩
def h_rb (f : Nat → Int32) (q : Nat) : Bool := decide (f q = nI q)
theorem h_rb_v {nK : Nat} {V : Nat → Prop} {N : Nat → Nat → Prop} {f : Nat → Int32} (h30 : nK ≤ 30) (hV : ∀ q, V q → q < nK) (hf : h_F nK V N f) {q : Nat} (hq : q < nK) : h_rb f q = true ↔ V q ∧ ∀ r, h_R V N q r → q ≤ r := by
  unfold h_rb
  rw [decide_eq_true_eq]
  by_cases hv : V q
  · obtain ⟨l, e, hl, h1, h2⟩ := hf.yes q hv
    have := hV l hl
    rw [e, nI_eq (by omega) (by omega)]
    constructor
    · rintro rfl; exact ⟨hv, h2⟩
    · intro z
      have h3 := h2 q (h_R.rf V N q)
      have h4 := z.2 l h1
      omega
  · rw [hf.no q hq hv]
    exact ⟨fun z => absurd z (nI_m1' (by omega)), fun z => absurd z.1 hv⟩
/-- the places left, when the roots below m have taken theirs -/
def h_Lf (V : Nat → Prop) (N : Nat → Nat → Prop) (f : Nat → Int32) (m : Nat) (left : Int32) : Prop := ∀ y, y < 32 → (bt left y = true ↔ V y ∧ ∀ r, r < m → h_rb f r = true → ¬ h_R V N r y)
theorem h_Lf.step {nK : Nat} {I : k_I} {J : k_J} {v : Int32} {V : Nat → Prop} {N : Nat → Nat → Prop} {f : Nat → Int32} (c : h_C nK I J v V N) (hf : h_F nK V N f) {m : Nat} (hm : m < nK) {left : Int32} (h : h_Lf V N f m left) :
    (bt left m = false → h_rb f m = false ∧ h_Lf V N f (m + 1) left) ∧ (bt left m = true → V m ∧ h_rb f m = true ∧ h_Lf V N f (m + 1) (left &&& (kHeapFrom nK I J (nI m) v ^^^ -1))) := by
  have h30 := c.n30
  have hb := h m (by omega)
  have ext : ∀ y, (∀ r, r < m + 1 → h_rb f r = true → ¬ h_R V N r y) ↔ (∀ r, r < m → h_rb f r = true → ¬ h_R V N r y) ∧ (h_rb f m = true → ¬ h_R V N m y) := fun y => by
    constructor
    · intro z
      exact ⟨fun r hr => z r (by omega), z m (by omega)⟩
    · rintro ⟨z1, z2⟩ r hr
      by_cases hrm : r = m
      · subst hrm; exact z2
      · exact z1 r (by omega)
  constructor
  · intro hl
    have hr : h_rb f m = false := by
      cases hc : h_rb f m
      · rfl
      · obtain ⟨hv, hmin⟩ := (h_rb_v h30 c.vl hf hm).mp hc
        have : bt left m = true := hb.mpr ⟨hv, fun r hr hrb hrr => by
          have hvr := ((h_rb_v h30 c.vl hf (by omega)).mp hrb).1
          have := hmin r (hrr.sy c.sym hvr)
          omega⟩
        rw [this] at hl; cases hl
    refine ⟨hr, fun y hy => ?_⟩
    rw [h y hy, ext y, hr]
    exact and_congr_right fun _ => ⟨fun z => ⟨z, fun q => by cases q⟩, fun z => z.1⟩
  · intro hl
    obtain ⟨hv, hno⟩ := hb.mp hl
    obtain ⟨l, e, hvl, h1, h2⟩ := hf.yes m hv
    have hlm : l ≤ m := h2 m (h_R.rf V N m)
    have hll := c.vl l hvl
    have hrl : h_rb f l = true := (h_rb_v h30 c.vl hf hll).mpr ⟨hvl, fun r hr => h2 r (h1.tr hr)⟩
    have hle : l = m := by
      rcases Nat.lt_or_ge l m with q | q
      · exact absurd (h1.sy c.sym hv) (hno l q hrl)
      · omega
    subst hle
    refine ⟨hv, hrl, fun y hy => ?_⟩
    rw [b_and, b_xor, b_m1 y hy, Bool.and_eq_true, h y hy, ext y, hrl, Bool.xor_true, Bool.not_eq_true', Bool.eq_false_iff, ne_eq, kHeapFrom_v c hv hy]
    constructor
    · rintro ⟨⟨z1, z2⟩, z3⟩; exact ⟨z1, z2, fun _ => z3⟩
    · rintro ⟨z1, z2, z3⟩; exact ⟨⟨z1, z2⟩, z3 rfl⟩
theorem h_Lf.z {nK : Nat} {I : k_I} {J : k_J} {v : Int32} {V : Nat → Prop} {N : Nat → Nat → Prop} {f : Nat → Int32} (c : h_C nK I J v V N) : h_Lf V N f 0 v := fun y hy => by
  rw [c.vb y hy]
  exact ⟨fun z => ⟨z, fun r hr => absurd hr (Nat.not_lt_zero _)⟩, fun z => z.1⟩
theorem kHeapN_v {nK : Nat} {I : k_I} {J : k_J} {v : Int32} {V : Nat → Prop} {N : Nat → Nat → Prop} {f : Nat → Int32} (c : h_C nK I J v V N) (hf : h_F nK V N f) : (kHeapN nK I J v).2 = nI (g_ct (h_rb f) nK) := by
  have h30 := c.n30
  have key := kLoop_i0 (step := fun k (s : Int32 × Int32) => if s.1 &&& kBit (nI k) = 0 then s else (s.1 &&& (kHeapFrom nK I J (nI k) v ^^^ -1), s.2 + 1)) (fun m s => h_Lf V N f m s.1 ∧ s.2 = nI (g_ct (h_rb f) m)) nK (v, 0) ⟨h_Lf.z c, rfl⟩ (by
    rintro m s hm ⟨h1, h2⟩
    obtain ⟨q1, q2⟩ := h1.step c hf hm
    rw [g_ct_s]
    cases hb : bt s.1 m
    · have e := (b_and_bit s.1 (n := m) (by omega)).mpr hb
      simp only [if_pos e]
      obtain ⟨r1, r2⟩ := q1 hb
      rw [r1]
      exact ⟨r2, h2⟩
    · have e : ¬ s.1 &&& kBit (nI m) = 0 := fun z => by rw [(b_and_bit s.1 (by omega)).mp z] at hb; cases hb
      simp only [if_neg e]
      obtain ⟨-, r1, r2⟩ := q2 hb
      rw [r1]
      refine ⟨r2, ?_⟩
      rw [h2, nI_1]; rfl)
  exact key.2
theorem kHeapOfF_v {nK : Nat} {I : k_I} {J : k_J} {v : Int32} {V : Nat → Prop} {N : Nat → Nat → Prop} {f : Nat → Int32} (c : h_C nK I J v V N) (hf : h_F nK V N f) {q : Nat} (hq : q < nK) : ∀ (d k : Nat) (left n : Int32), k + d = nK → h_Lf V N f k left → n = nI (g_ct (h_rb f) k) → (V q → (∀ r, r < k → h_rb f r = true → ¬ h_R V N r q) → ∃ l, f q = nI l ∧ V l ∧ kHeapOfF nK I J (nI q) v d k left n = nI (g_ct (h_rb f) l)) ∧ (¬ V q → kHeapOfF nK I J (nI q) v d k left n = -1)
  | 0, k, left, n, hd, hl, hn => by
    refine ⟨fun hv hno => ?_, fun _ => rfl⟩
    obtain ⟨l, e, hvl, h1, h2⟩ := hf.yes q hv
    have hll := c.vl l hvl
    exact absurd (h1.sy c.sym hv) (hno l (by omega) ((h_rb_v c.n30 c.vl hf hll).mpr ⟨hvl, fun r hr => h2 r (h1.tr hr)⟩))
  | d + 1, k, left, n, hd, hl, hn => by
    have h30 := c.n30
    have hk : k < nK := by omega
    obtain ⟨q1, q2⟩ := hl.step c hf hk
    unfold kHeapOfF
    have ext : ∀ r, r < k + 1 → r < k ∨ r = k := fun r hr => by omega
    cases hb : bt left k
    · rw [if_pos ((b_and_bit left (by omega)).mpr hb)]
      obtain ⟨r1, r2⟩ := q1 hb
      obtain ⟨a, b⟩ := kHeapOfF_v c hf hq d (k + 1) left n (by omega) r2 (by rw [hn, g_ct_s, r1]; rfl)
      refine ⟨fun hv hno => a hv fun r hr hrb => ?_, b⟩
      rcases ext r hr with z | rfl
      · exact hno r z hrb
      · rw [r1] at hrb; cases hrb
    · rw [if_neg (fun z => by rw [(b_and_bit left (by omega)).mp z] at hb; cases hb)]
      obtain ⟨hvk, r1, r2⟩ := q2 hb
      have hH := kHeapFrom_v c hvk (y := q) (by omega)
      by_cases hin : kHeapFrom nK I J (nI k) v &&& kBit (nI q) = 0
      · rw [if_pos hin]
        have hnr : ¬ h_R V N k q := fun z => by
          rw [b_and_bit _ (by omega)] at hin
          rw [hH.mpr z] at hin; cases hin
        obtain ⟨a, b⟩ := kHeapOfF_v c hf hq d (k + 1) (left &&& (kHeapFrom nK I J (nI k) v ^^^ -1)) (n + 1) (by omega) r2 (by rw [hn, g_ct_s, r1, nI_1]; rfl)
        refine ⟨fun hv hno => a hv fun r hr hrb => ?_, b⟩
        rcases ext r hr with z | rfl
        · exact hno r z hrb
        · exact hnr
      · rw [if_neg hin]
        have hr : h_R V N k q := hH.mp (by
          cases hc : bt (kHeapFrom nK I J (nI k) v) q
          · exact absurd ((b_and_bit _ (by omega)).mpr hc) hin
          · rfl)
        refine ⟨fun hv _ => ?_, fun hv => absurd (hr.v hvk) hv⟩
        obtain ⟨l, e, hvl, h1, h2⟩ := hf.yes q hv
        have hmin := ((h_rb_v h30 c.vl hf hk).mp r1).2
        have z1 := hmin l (hr.tr h1)
        have z2 := h2 k (hr.sy c.sym hvk)
        have : l = k := by omega
        subst this
        exact ⟨l, e, hvl, hn⟩
theorem kHeapOf_m {nK : Nat} {I F : k_I} {J : k_J} {v : Int32} {V : Nat → Prop} {N : Nat → Nat → Prop} (c : h_C nK I J v V N) (hf : h_F nK V N (F 44 0)) {q : Nat} (hq : q < nK) : kHeapOf nK I J (nI q) v = mHeapOf nK F q := by
  have h30 := c.n30
  obtain ⟨a, b⟩ := kHeapOfF_v c hf hq nK 0 v 0 (Nat.zero_add _) (h_Lf.z c) rfl
  unfold kHeapOf mHeapOf
  by_cases hv : V q
  · obtain ⟨l, e, hvl, e2⟩ := a hv (fun r hr => absurd hr (Nat.not_lt_zero _))
    have hll := c.vl l hvl
    rw [e2, e, if_neg (nI_pos (by omega)), nI_clamp (by omega), ← kCt_m]
    refine kLoop_cg l 0 _ fun p n _ _ => ?_
    unfold h_rb
    simp only [decide_eq_true_eq]
  · rw [b hv, hf.no q hq hv, if_pos (by decide)]
