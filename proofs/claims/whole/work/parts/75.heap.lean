/-! heaps: who belongs together -/
def h_R (V : Nat → Prop) (N : Nat → Nat → Prop) (x y : Nat) : Prop := ∀ S : Nat → Prop, S x → (∀ a b, S a → V b → N a b → S b) → S y
theorem h_R.rf (V : Nat → Prop) (N : Nat → Nat → Prop) (x : Nat) : h_R V N x x := fun _ h _ => h
theorem h_R.tr {V : Nat → Prop} {N : Nat → Nat → Prop} {x y z : Nat} (h : h_R V N x y) (g : h_R V N y z) : h_R V N x z := fun S hx hs => g S (h S hx hs) hs
theorem h_R.st {V : Nat → Prop} {N : Nat → Nat → Prop} {x a b : Nat} (h : h_R V N x a) (hb : V b) (hn : N a b) : h_R V N x b := fun S hx hs => hs a b (h S hx hs) hb hn
theorem h_R.v {V : Nat → Prop} {N : Nat → Nat → Prop} {x y : Nat} (h : h_R V N x y) (hx : V x) : V y := h V hx (fun _ _ _ hb _ => hb)
theorem h_R.sy {V : Nat → Prop} {N : Nat → Nat → Prop} (sym : ∀ a b, N a b → N b a) {x y : Nat} (h : h_R V N x y) (hx : V x) : h_R V N y x :=
  (h (fun b => V b ∧ h_R V N b x) ⟨hx, h_R.rf V N x⟩ (fun a b ha hb hn => ⟨hb, ((h_R.rf V N b).st ha.1 (sym a b hn)).tr ha.2⟩)).2
/-- the keeper's heaps are its bits -/
abbrev h_C (nK : Nat) (I : k_I) (J : k_J) (v : Int32) (V : Nat → Prop) (N : Nat → Nat → Prop) : Prop := (nK ≤ 30) ∧ (∀ y, y < 32 → (bt v y = true ↔ V y)) ∧ (∀ y, V y → y < nK) ∧ (∀ a b, a < nK → b < nK → (I 0 0 6 < kFar (J 11 a 2) (J 11 b 2) ↔ ¬ N a b)) ∧ (∀ a b, N a b → N b a)
theorem h_C.n30 {nK : Nat} {I : k_I} {J : k_J} {v : Int32} {V : Nat → Prop} {N : Nat → Nat → Prop} (h_ : h_C nK I J v V N) : nK ≤ 30 := h_.1
theorem h_C.vb {nK : Nat} {I : k_I} {J : k_J} {v : Int32} {V : Nat → Prop} {N : Nat → Nat → Prop} (h_ : h_C nK I J v V N) : ∀ y, y < 32 → (bt v y = true ↔ V y) := h_.2.1
theorem h_C.vl {nK : Nat} {I : k_I} {J : k_J} {v : Int32} {V : Nat → Prop} {N : Nat → Nat → Prop} (h_ : h_C nK I J v V N) : ∀ y, V y → y < nK := h_.2.2.1
theorem h_C.nn {nK : Nat} {I : k_I} {J : k_J} {v : Int32} {V : Nat → Prop} {N : Nat → Nat → Prop} (h_ : h_C nK I J v V N) : ∀ a b, a < nK → b < nK → (I 0 0 6 < kFar (J 11 a 2) (J 11 b 2) ↔ ¬ N a b) := h_.2.2.2.1
theorem h_C.sym {nK : Nat} {I : k_I} {J : k_J} {v : Int32} {V : Nat → Prop} {N : Nat → Nat → Prop} (h_ : h_C nK I J v V N) : ∀ a b, N a b → N b a := h_.2.2.2.2
theorem kNear1_v {nK : Nat} {I : k_I} {J : k_J} {v : Int32} {V : Nat → Prop} {N : Nat → Nat → Prop} (c : h_C nK I J v V N) {k : Nat} (hk : k < nK) (h : Int32) : kNear1 nK I J k h = true ↔ ∃ a, a < nK ∧ bt h a = true ∧ N k a := by
  have h30 := c.n30
  unfold kNear1
  rw [kAny_0]
  refine exists_congr fun a => and_congr_right fun ha => ?_
  rw [Bool.and_eq_true, Bool.not_eq_true', Bool.not_eq_true', decide_eq_false_iff_not, decide_eq_false_iff_not, b_and_bit h (by omega), c.nn k a hk ha, Bool.not_eq_false, Classical.not_not]
theorem kHeapStep_v {nK : Nat} {I : k_I} {J : k_J} {v : Int32} {V : Nat → Prop} {N : Nat → Nat → Prop} (c : h_C nK I J v V N) {k : Nat} (hk : k < nK) (h : Int32) :
    ((bt h k = true ∨ ¬ V k ∨ ¬ ∃ a, a < nK ∧ bt h a = true ∧ N k a) ∧ kHeapStep nK I J v k h = h) ∨ (V k ∧ (∃ a, a < nK ∧ bt h a = true ∧ N k a) ∧ ∀ y, y < 32 → bt (kHeapStep nK I J v k h) y = (bt h y || decide (y = k))) := by
  have h30 := c.n30
  have e1 : v &&& (h ^^^ -1) &&& kBit (nI k) = 0 ↔ ¬ (V k ∧ bt h k = false) := by
    rw [b_and_bit _ (by omega), b_and, b_xor, b_m1 k (by omega), ← c.vb k (by omega)]
    cases bt v k <;> cases bt h k <;> simp
  unfold kHeapStep
  by_cases hc : v &&& (h ^^^ -1) &&& kBit (nI k) = 0
  · rw [if_pos hc]
    refine Or.inl ⟨?_, rfl⟩
    have := e1.mp hc
    cases hb : bt h k
    · exact Or.inr (Or.inl fun hv => this ⟨hv, hb⟩)
    · exact Or.inl rfl
  · rw [if_neg hc]
    have hv : V k := Classical.byContradiction fun q => hc (e1.mpr fun z => q z.1)
    by_cases hn : kNear1 nK I J k h = true
    · rw [if_pos hn]
      refine Or.inr ⟨hv, (kNear1_v c hk h).mp hn, fun y hy => ?_⟩
      rw [b_or, b_bit (by omega) hy]
    · rw [if_neg hn]
      exact Or.inl ⟨Or.inr (Or.inr fun z => hn ((kNear1_v c hk h).mpr z)), rfl⟩
def h_Cl (nK : Nat) (V : Nat → Prop) (N : Nat → Nat → Prop) (h : Int32) : Prop := ∀ a b, a < nK → bt h a = true → V b → N a b → bt h b = true
theorem kRound_v {nK : Nat} {I : k_I} {J : k_J} {v : Int32} {V : Nat → Prop} {N : Nat → Nat → Prop} (c : h_C nK I J v V N) {x : Nat} {h : Int32} (hs : ∀ y, y < 32 → bt h y = true → h_R V N x y) :
    (∀ y, y < 32 → bt (kLoop (kHeapStep nK I J v) nK 0 h) y = true → h_R V N x y) ∧ (∀ y, y < 32 → bt h y = true → bt (kLoop (kHeapStep nK I J v) nK 0 h) y = true) ∧ (h_Cl nK V N h → kLoop (kHeapStep nK I J v) nK 0 h = h) ∧ ∀ a b, a < nK → bt h a = true → V b → N a b → bt (kLoop (kHeapStep nK I J v) nK 0 h) b = true := by
  have h30 := c.n30
  have key := kLoop_i0 (step := kHeapStep nK I J v) (fun n r => (∀ y, y < 32 → bt r y = true → h_R V N x y) ∧ (∀ y, y < 32 → bt h y = true → bt r y = true) ∧ (h_Cl nK V N h → r = h) ∧ ∀ a b, a < nK → bt h a = true → V b → N a b → b < n → bt r b = true) nK h ⟨hs, fun _ _ h => h, fun _ => rfl, fun a b _ _ _ _ hb => absurd hb (Nat.not_lt_zero _)⟩ (by
    rintro n r hn ⟨h1, h2, h3, h4⟩
    rcases kHeapStep_v c hn r with ⟨q1, q2⟩ | ⟨q1, ⟨a0, ha0, hb0, hn0⟩, q3⟩
    · rw [q2]
      refine ⟨h1, h2, h3, fun a b ha hb hv hnn hbn => ?_⟩
      by_cases hbe : b = n
      · subst hbe
        rcases q1 with q1 | q1 | q1
        · exact q1
        · exact absurd hv q1
        · exact absurd ⟨a, ha, h2 a (by omega) hb, c.sym a b hnn⟩ q1
      · exact h4 a b ha hb hv hnn (by omega)
    · refine ⟨fun y hy hb => ?_, fun y hy hb => ?_, fun hcl => ?_, fun a b ha hb hv hnn hbn => ?_⟩
      · rw [q3 y hy, Bool.or_eq_true, decide_eq_true_eq] at hb
        rcases hb with hb | rfl
        · exact h1 y hy hb
        · exact (h1 a0 (by omega) hb0).st q1 (c.sym _ _ hn0)
      · rw [q3 y hy, h2 y hy hb]; rfl
      · have hr := h3 hcl
        subst hr
        have hbn := hcl a0 n ha0 hb0 q1 (c.sym _ _ hn0)
        refine b_ext fun y hy => ?_
        rw [q3 y hy]
        by_cases hyn : y = n
        · subst hyn; rw [hbn]; rfl
        · rw [decide_eq_false hyn, Bool.or_false]
      · have hb32 : b < 32 := by have := c.vl b hv; omega
        rw [q3 b hb32]
        by_cases hbe : b = n
        · subst hbe; rw [decide_eq_true rfl, Bool.or_true]
        · rw [h4 a b ha hb hv hnn (by omega)]; rfl)
  exact ⟨key.1, key.2.1, key.2.2.1, fun a b ha hb hv hnn => key.2.2.2 a b ha hb hv hnn (c.vl b hv)⟩
theorem kHeapFrom_v {nK : Nat} {I : k_I} {J : k_J} {v : Int32} {V : Nat → Prop} {N : Nat → Nat → Prop} (c : h_C nK I J v V N) {x : Nat} (hx : V x) {y : Nat} (hy : y < 32) : bt (kHeapFrom nK I J (nI x) v) y = true ↔ h_R V N x y := by
  have h30 := c.n30
  have hxl := c.vl x hx
  have b0 : ∀ y, y < 32 → bt (kBit (nI x)) y = decide (y = x) := fun y hy => b_bit (by omega) hy
  have key := kLoop_i0 (step := fun _ h => kLoop (kHeapStep nK I J v) nK 0 h) (fun m h => (∀ y, y < 32 → bt h y = true → h_R V N x y) ∧ bt h x = true ∧ (h_Cl nK V N h ∨ m + 1 ≤ g_ct (bt h) nK)) 30 (kBit (nI x)) ⟨fun y hy hb => (by
      rw [b0 y hy, decide_eq_true_eq] at hb
      subst hb; exact h_R.rf V N y), by rw [b0 x (by omega), decide_eq_true rfl], Or.inr (by
      rw [g_ct_cg (q := fun y => decide (y = x)) (fun y hy => b0 y (by omega)), g_ct_1 hxl]
      exact Nat.le_refl 1)⟩ (by
    rintro m h hm ⟨h1, h2, h3⟩
    obtain ⟨q1, q2, q3, q4⟩ := kRound_v c h1
    refine ⟨q1, q2 x (by omega) h2, ?_⟩
    by_cases hcl : h_Cl nK V N h
    · rw [q3 hcl]; exact Or.inl hcl
    · refine Or.inr ?_
      have hct := h3.resolve_left hcl
      obtain ⟨b, hb, hb1, hb2⟩ : ∃ b, b < nK ∧ bt h b = false ∧ bt (kLoop (kHeapStep nK I J v) nK 0 h) b = true := by
        refine Classical.byContradiction fun z => hcl fun a b ha hb hv hn => ?_
        have hbl := c.vl b hv
        cases hc : bt h b
        · exact absurd ⟨b, hbl, hc, q4 a b ha hb hv hn⟩ z
        · rfl
      have := g_ct_lt (p := bt h) (q := bt (kLoop (kHeapStep nK I J v) nK 0 h)) (e := b) (n := nK) (fun k hk => q2 k (by omega)) hb hb1 hb2
      omega)
  obtain ⟨k1, k2, k3⟩ := key
  unfold kHeapFrom
  constructor
  · exact k1 y hy
  · intro hr
    have hcl : h_Cl nK V N (kLoop (fun _ h => kLoop (kHeapStep nK I J v) nK 0 h) 30 0 (kBit (nI x))) := by
      refine k3.resolve_right fun z => ?_
      have := g_ct_le (bt (kLoop (fun _ h => kLoop (kHeapStep nK I J v) nK 0 h) 30 0 (kBit (nI x)))) nK
      omega
    exact (hr (fun b => V b ∧ bt (kLoop (fun _ h => kLoop (kHeapStep nK I J v) nK 0 h) 30 0 (kBit (nI x))) b = true) ⟨hx, k2⟩ (fun a b ha hb hn => ⟨hb, hcl a b (c.vl a ha.1) ha.2 hb hn⟩)).2
