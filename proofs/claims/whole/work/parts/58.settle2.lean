/-! settle looks at the keeper's own slots alone -/
def g_M {α : Type} (X M : Nat → α) : Nat → α := fun c => if c < 13 then X c else M c
theorem g_M_lo {α : Type} {X M : Nat → α} {c : Nat} (h : c < 13) : g_M X M c = X c := if_pos h
theorem g_M_hi {α : Type} {X M : Nat → α} {c : Nat} (h : ¬ c < 13) : g_M X M c = M c := if_neg h
theorem g_M_up {α : Type} {X M : Nat → Nat → Nat → α} {c i : Nat} {f : Nat → α} (hc : c < 13) : k_up (g_M X M) c i f = g_M (k_up X c i f) M := by
  funext c' i'
  show (if c' = c ∧ i' = i then f else g_M X M c' i') = g_M (k_up X c i f) M c' i'
  by_cases h : c' < 13
  · rw [g_M_lo h, g_M_lo h]; rfl
  · rw [g_M_hi h, g_M_hi h, if_neg (fun q => h (by rw [q.1]; exact hc))]
theorem g_M_e {α : Type} {X Y M : Nat → α} (h : ∀ c, c < 13 → Y c = X c) (h2 : ∀ c, 13 ≤ c → Y c = M c) : Y = g_M X M := by
  funext c
  by_cases hc : c < 13
  · rw [g_M_lo hc]; exact h c hc
  · rw [g_M_hi hc]; exact h2 c (by omega)
theorem kLoop_map {α β : Type} {g : α → β} {step : Nat → α → α} {step' : Nat → β → β} (h : ∀ i a, step' i (g a) = g (step i a)) : ∀ (d i : Nat) (a : α), kLoop step' d i (g a) = g (kLoop step d i a)
  | 0, _, _ => rfl
  | d + 1, i, a => by
    show kLoop step' d (i + 1) (step' i (g a)) = g (kLoop step d (i + 1) (step i a))
    rw [h]; exact kLoop_map h d (i + 1) _
section LOC
variable {M : k_I} {N : k_J}
abbrev g_P (M : k_I) (N : k_J) (s : k_IJ) : k_IJ := (g_M s.1 M, g_M s.2 N)
theorem kSP_m (i : Nat) (s : k_IJ) : kSP i (g_P M N s) = g_P M N (kSP i s) := by
  have e : (g_M s.1 M) 8 = s.1 8 := g_M_lo (by decide)
  have e2 : (g_M s.1 M) 2 = s.1 2 := g_M_lo (by decide)
  have eJ : (g_M s.2 N) 8 = s.2 8 := g_M_lo (by decide)
  have ec : ∀ x t, kChg (g_M s.1 M) x t = kChg s.1 x t := fun x t => kChg_of (g_M_lo (by decide)) x t
  unfold kSP
  simp only [e, e2, eJ, ec]
  by_cases h : s.1 8 i 1 = 0
  · rw [if_pos h, if_pos h]
    exact Prod.ext (g_M_up (by decide)) (g_M_up (by decide))
  · rw [if_neg h, if_neg h]
theorem kEnd_m (nA : Nat) (I : k_I) (a : Int32) : kEnd nA (g_M I M) a = kEnd nA I a := by
  unfold kEnd
  rw [show (g_M I M) 8 = I 8 from g_M_lo (by decide)]
theorem kPart_m (I : k_I) (i : Nat) (a : Int32) : kPart (g_M I M) i a = kPart I i a := by
  unfold kPart
  rw [show (g_M I M) 10 = I 10 from g_M_lo (by decide)]
theorem kSet_m (I : k_I) (i : Nat) (a : Int32) : kSet (g_M I M) i a = kSet I i a := by
  unfold kSet
  rw [show (g_M I M) 9 = I 9 from g_M_lo (by decide)]
theorem kW1_m (nA x k : Nat) (I : k_I) : kW1 nA x k (g_M I M) = g_M (kW1 nA x k I) M := by
  have e : (g_M I M) 8 = I 8 := g_M_lo (by decide)
  unfold kW1
  rw [kEnd_m, kPart_m]
  cases kEnd nA I (kPart I x (nI k)) with
  | none => rfl
  | some e2 =>
    simp only [e]
    exact g_M_up (by decide)
theorem kUnd_m (nA : Nat) (I : k_I) : kUnd nA (g_M I M) = g_M (kUnd nA I) M := by
  have h0 : kUnd0 nA (g_M I M) = g_M (kUnd0 nA I) M := by
    refine kLoop_map (g := fun I : k_I => g_M I M) (fun i I => ?_) nA 0 I
    rw [show (g_M I M) 8 = I 8 from g_M_lo (by decide)]
    exact g_M_up (by decide)
  unfold kUnd
  rw [h0]
  refine kLoop_map (g := fun I : k_I => g_M I M) (fun i I => ?_) 24 0 _
  refine kLoop_map (g := fun I : k_I => g_M I M) (fun i I => ?_) nA 0 _
  exact kLoop_map (g := fun I : k_I => g_M I M) (fun k I => kW1_m nA i k I) 4 0 _
theorem kClr_m (i : Nat) (I : k_I) : kClr i (g_M I M) = g_M (kClr i I) M := by
  have hS : kClrS i (g_M I M) = g_M (kClrS i I) M := by
    refine kLoop_map (g := fun I : k_I => g_M I M) (fun a I => ?_) 3 0 I
    rw [show (g_M I M) 9 = I 9 from g_M_lo (by decide)]
    exact g_M_up (by decide)
  unfold kClr
  rw [hS]
  generalize kClrS i I = X
  have h1 : kClr1 i (g_M X M) = g_M (kClr1 i X) M := by
    unfold kClr1
    rw [show (g_M X M) 8 = X 8 from g_M_lo (by decide)]
    exact g_M_up (by decide)
  rw [h1]
  generalize kClr1 i X = Y
  unfold kClr2
  rw [show (g_M Y M) 8 = Y 8 from g_M_lo (by decide)]
  exact g_M_up (by decide)
theorem kGat_m (i j : Nat) (I : k_I) : kGat i j (g_M I M) = g_M (kGat i j I) M := by
  have hS : kGatS i j (g_M I M) = g_M (kGatS i j I) M := by
    refine kLoop_map (g := fun I : k_I => g_M I M) (fun a I => ?_) 3 0 I
    rw [show (g_M I M) 9 = I 9 from g_M_lo (by decide), kSet_m]
    exact g_M_up (by decide)
  unfold kGat
  rw [hS]
  generalize kGatS i j I = X
  have h1 : kGat1 i j (g_M X M) = g_M (kGat1 i j X) M := by
    unfold kGat1
    rw [show (g_M X M) 8 = X 8 from g_M_lo (by decide)]
    exact g_M_up (by decide)
  rw [h1]
  generalize kGat1 i j X = Y
  unfold kGat2
  rw [show (g_M Y M) 8 = Y 8 from g_M_lo (by decide)]
  exact g_M_up (by decide)
theorem kGatJ_m (i j : Nat) (J : k_J) : kGatJ i j (g_M J N) = g_M (kGatJ i j J) N := by
  unfold kGatJ
  rw [show (g_M J N) 8 = J 8 from g_M_lo (by decide)]
  exact g_M_up (by decide)
theorem kClrJ_m (i : Nat) (J : k_J) : kClrJ i (g_M J N) = g_M (kClrJ i J) N := by
  unfold kClrJ
  rw [show (g_M J N) 8 = J 8 from g_M_lo (by decide)]
  exact g_M_up (by decide)
theorem kSJ1_m (i a : Nat) (s : k_IJ) : kSJ1 i a (g_P M N s) = g_P M N (kSJ1 i a s) := by
  have e : (g_M s.1 M) 8 = s.1 8 := g_M_lo (by decide)
  unfold kSJ1
  simp only [e]
  by_cases h : s.1 8 a 1 = 0
  · rw [if_pos h, if_pos h]
    by_cases h2 : s.1 8 i 12 &&& kBit (nI a) = 0
    · rw [if_pos h2, if_pos h2]
    · rw [if_neg h2, if_neg h2]
      exact Prod.ext (kGat_m i a s.1) (kGatJ_m i a s.2)
  · rw [if_neg h, if_neg h]
theorem kSJ_m (nA i : Nat) (s : k_IJ) : kSJ nA i (g_P M N s) = g_P M N (kSJ nA i s) := by
  have e : (g_M s.1 M) 8 = s.1 8 := g_M_lo (by decide)
  unfold kSJ
  simp only [e]
  by_cases h : s.1 8 i 1 = 1
  · rw [if_pos h, if_pos h, kClr_m, kClrJ_m]
    rw [show ((g_M (kClr i s.1) M, g_M (kClrJ i s.2) N) : k_IJ) = g_P M N (kClr i s.1, kClrJ i s.2) from rfl, kLoop_map (g := g_P M N) (fun a s => kSJ1_m i a s)]
    generalize kLoop (kSJ1 i) nA 0 (kClr i s.1, kClrJ i s.2) = r
    unfold kSJf
    have e2 : (g_M r.1 M) 2 = r.1 2 := g_M_lo (by decide)
    have eJ : (g_M r.2 N) 8 = r.2 8 := g_M_lo (by decide)
    simp only [e2, eJ]
    exact Prod.ext rfl (g_M_up (by decide))
  · rw [if_neg h, if_neg h]
theorem kAskF_m (nK : Nat) (I : k_I) (J : k_J) : kAskF nK (g_M I M) (g_M J N) = g_M (kAskF nK I J) N := by
  unfold kAskF
  rw [show (g_M I M) 2 = I 2 from g_M_lo (by decide)]
  refine kLoop_map (g := fun J : k_J => g_M J N) (fun i J => ?_) nK 0 J
  rw [show (g_M J N) 11 = J 11 from g_M_lo (by decide)]
  exact g_M_up (by decide)
theorem kSettle_m (nA nK : Nat) (s : k_IJ) : kSettle nA nK (g_P M N s) = g_P M N (kSettle nA nK s) := by
  have h1 : kSt1 nA (g_P M N s) = g_P M N (kSt1 nA s) := kLoop_map (g := g_P M N) (step := kSP) (step' := kSP) (fun i s => kSP_m i s) nA 0 s
  unfold kSettle
  rw [h1]
  generalize kSt1 nA s = X
  have h2 : kSt2 nA (g_P M N X) = g_P M N (kSt2 nA X) := by
    have e : (kUnd nA (g_M X.1 M), g_M X.2 N) = g_P M N (kUnd nA X.1, X.2) := by rw [kUnd_m]
    show kLoop (kSJ nA) nA 0 (kUnd nA (g_M X.1 M), g_M X.2 N) = _
    rw [e]
    exact kLoop_map (g := g_P M N) (step := kSJ nA) (step' := kSJ nA) (fun i s => kSJ_m nA i s) nA 0 (kUnd nA X.1, X.2)
  rw [h2]
  generalize kSt2 nA X = Y
  unfold kSt3
  simp only [kAskF_m]
end LOC
/-- what settle leaves on a picture with the reference's slots changed -/
theorem kSettle_hi {nA nK : Nat} {K : k_I} {L : k_J} {c : Nat} (hc : 13 ≤ c) : (kSettle nA nK (K, L)).1 c = K c ∧ (kSettle nA nK (K, L)).2 c = L c := by
  have h := kSettle_m (M := K) (N := L) nA nK (K, L)
  have e : g_P K L (K, L) = (K, L) := Prod.ext (g_M_e (fun _ _ => rfl) (fun _ _ => rfl)).symm (g_M_e (fun _ _ => rfl) (fun _ _ => rfl)).symm
  rw [e] at h
  exact ⟨(congrFun (congrArg Prod.fst h) c).trans (g_M_hi (by omega)), (congrFun (congrArg Prod.snd h) c).trans (g_M_hi (by omega))⟩
/-! kinds from 39 on don't count -/
theorem k_Raw.of {nA nK : Nat} {E : Nat → Nat} {I I' : k_I} {J J' : k_J} (h : k_Raw nA nK E I J) (hI : ∀ c, c < 39 → I' c = I c) (hJ : ∀ c, c < 39 → J' c = J c) : k_Raw nA nK E I' J' := by
  obtain ⟨a1, a2, a3, a4, a5, a6, a7, a8, a9, b1, b2, b3, b4, b5, b6, b7, b8, b9, c1, c2⟩ := h
  refine ⟨?_, ?_, ?_, ?_, ?_, ?_, ?_, ?_, ?_, ?_, ?_, ?_, ?_, ?_, ?_, ?_, ?_, ?_, ?_, ?_⟩
  · rw [hI 0 (by decide), hI 13 (by decide)]; exact a1
  · rw [hI 0 (by decide), hI 13 (by decide)]; exact a2
  · rw [hI 2 (by decide), hI 20 (by decide)]; exact a3
  · rw [hI 3 (by decide), hI 13 (by decide)]; exact a4
  · rw [hI 4 (by decide), hI 5 (by decide), hI 21 (by decide), hI 22 (by decide)]; exact a5
  · rw [hI 8 (by decide)]; exact a6
  · rw [hI 8 (by decide), hI 27 (by decide)]; exact a7
  · rw [hI 8 (by decide), hI 30 (by decide)]; exact a8
  · rw [hI 8 (by decide)]; exact a9
  · rw [hI 8 (by decide), hI 34 (by decide)]; exact b1
  · rw [hI 10 (by decide), hI 35 (by decide)]; exact b2
  · rw [hI 35 (by decide)]; exact b3
  · rw [hI 27 (by decide), hI 35 (by decide)]; exact b4
  · rw [hI 27 (by decide), hJ 8 (by decide), hJ 29 (by decide)]; exact b5
  · rw [hI 27 (by decide), hI 9 (by decide), hI 31 (by decide)]; exact b6
  · rw [hI 27 (by decide), hI 8 (by decide), hI 32 (by decide)]; exact b7
  · rw [hI 27 (by decide), hI 8 (by decide), hI 33 (by decide)]; exact b8
  · rw [hJ 11 (by decide), hJ 37 (by decide)]; exact b9
  · rw [hI 12 (by decide), hI 38 (by decide)]; exact c1
  · rw [hI 35 (by decide)]; exact c2
theorem k_Set.of {nA nK : Nat} {E : Nat → Nat} {I I' : k_I} {J J' : k_J} (h : k_Set nA nK E I J) (hI : ∀ c, c < 39 → I' c = I c) (hJ : ∀ c, c < 39 → J' c = J c) : k_Set nA nK E I' J' := by
  obtain ⟨v1, v2, v3, v4⟩ := v_of (E := E) (I := I) (I' := I') (J := J) (J' := J') (fun c _ h2 => hI c h2) (hJ 29 (by decide))
  obtain ⟨a1, a2, a3, a4, a5, a6, a7⟩ := h
  refine ⟨?_, ?_, ?_, ?_, ?_, ?_, ?_⟩
  · rw [v1, hJ 8 (by decide)]; exact a1
  · rw [v2, hI 9 (by decide)]; exact a2
  · rw [v3, hI 8 (by decide)]; exact a3
  · rw [v4, hI 8 (by decide)]; exact a4
  · rw [hI 35 (by decide), hI 8 (by decide)]; exact a5
  · rw [hI 2 (by decide), hJ 8 (by decide)]; exact a6
  · rw [hI 2 (by decide), hJ 11 (by decide)]; exact a7
theorem RR.of {nA nK : Nat} {E : Nat → Nat} {I I' : k_I} {J J' : k_J} (h : RR nA nK E I J) (hI : ∀ c, c < 39 → I' c = I c) (hJ : ∀ c, c < 39 → J' c = J c) : RR nA nK E I' J' :=
  ⟨h.ks.of (hI 0 (by decide)) (hI 6 (by decide)) (hI 7 (by decide)), h.ms.low (hI 13 (by decide)) (hI 28 (by decide)) (hI 35 (by decide)), by rw [hI 6 (by decide)]; exact h.z6, by rw [hI 7 (by decide)]; exact h.z7, h.raw.of hI hJ, h.set.of hI hJ, by unfold g_Led; rw [hI 28 (by decide)]; exact h.led⟩
/-- the keeper settles (K, L), then the reference writes: F; X, Y is the picture with all written and nothing settled -/
theorem RR_late {nA nK : Nat} {E : Nat → Nat} {K X : k_I} {L Y : k_J} {F : k_IJ} (hX : ∀ c, c < 13 → X c = K c) (hY : ∀ c, c < 13 → Y c = L c) (f1 : ∀ c, c < 13 → F.1 c = (kSettle nA nK (K, L)).1 c) (f2 : ∀ c, 13 ≤ c → c < 39 → F.1 c = X c) (g1 : ∀ c, c < 13 → F.2 c = (kSettle nA nK (K, L)).2 c) (g2 : ∀ c, 13 ≤ c → c < 39 → F.2 c = Y c) (ks : k_S nA nK X) (ms : m_S nA nK E X) (z6 : ∀ j, nA ≤ j → X 6 0 j = 0) (z7 : ∀ j, nK ≤ j → X 7 0 j = 0) (raw : k_Raw nA nK E X Y) (led : g_Led nA X) : RR nA nK E F.1 F.2 := by
  have h := kSettle_m (M := X) (N := Y) nA nK (K, L)
  have e : g_P X Y (K, L) = (X, Y) := Prod.ext (g_M_e hX (fun _ _ => rfl)).symm (g_M_e hY (fun _ _ => rfl)).symm
  rw [e] at h
  have r := RR_settle ks ms z6 z7 raw led
  rw [h] at r
  refine r.of (fun c hc => ?_) (fun c hc => ?_)
  · show F.1 c = g_M (kSettle nA nK (K, L)).1 X c
    by_cases h13 : c < 13
    · rw [g_M_lo h13]; exact f1 c h13
    · rw [g_M_hi h13]; exact f2 c (by omega) hc
  · show F.2 c = g_M (kSettle nA nK (K, L)).2 Y c
    by_cases h13 : c < 13
    · rw [g_M_lo h13]; exact g1 c h13
    · rw [g_M_hi h13]; exact g2 c (by omega) hc
