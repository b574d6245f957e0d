/-! what the keeper's writing methods leave: functions on the slots -/
abbrev k_IJ : Type := k_I × k_J
theorem k_up_c {α : Type} {I : Nat → Nat → α} {c i : Nat} {f : α} {c' i' : Nat} (h : c' ≠ c) : k_up I c i f c' i' = I c' i' := by simp [k_up, h]
theorem k_up_C {α : Type} {I : Nat → Nat → α} {c i : Nat} {f : α} {c' : Nat} (h : c' ≠ c) : k_up I c i f c' = I c' := by funext i'; simp [k_up, h]
theorem k_up_s {α : Type} {I : Nat → Nat → α} {c i : Nat} {f : α} : k_up I c i f c i = f := by simp [k_up]
theorem k_up_i {α : Type} {I : Nat → Nat → α} {c i : Nat} {f : α} {i' : Nat} (h : i' ≠ i) : k_up I c i f c i' = I c i' := by simp [k_up, h]
theorem upd_s {f : Nat → Int32} {k : Nat} {x : Int32} : upd f k x k = x := by simp [upd]
theorem upd_n {f : Nat → Int32} {k j : Nat} {x : Int32} (h : j ≠ k) : upd f k x j = f j := by simp [upd, h]
theorem updL_s {f : Nat → Int64} {k : Nat} {x : Int64} : vp_updL f k x k = x := by simp [vp_updL]
theorem updL_n {f : Nat → Int64} {k j : Nat} {x : Int64} (h : j ≠ k) : vp_updL f k x j = f j := by simp [vp_updL, h]
theorem kLoop_eq {α β : Type} {g : α → β} {step : Nat → α → α} (h : ∀ i a, g (step i a) = g a) : ∀ (d i : Nat) (a : α), g (kLoop step d i a) = g a
  | 0, _, _ => rfl
  | d + 1, i, a => (kLoop_eq h d (i + 1) (step i a)).trans (h i a)
theorem kLoop_inv {α : Type} {q : α → Prop} {step : Nat → α → α} (h : ∀ i a, q a → q (step i a)) : ∀ (d i : Nat) (a : α), q a → q (kLoop step d i a)
  | 0, _, _, h0 => h0
  | d + 1, i, a, h0 => kLoop_inv h d (i + 1) (step i a) (h i a h0)
theorem k_S.of {nA nK : Nat} {I I' : k_I} (h : k_S nA nK I) (h0 : I' 0 = I 0) (h6 : I' 6 = I 6) (h7 : I' 7 = I 7) : k_S nA nK I' := by
  unfold k_S at h ⊢
  rw [h0, h6, h7]; exact h
def kSP (i : Nat) (s : k_IJ) : k_IJ := if s.1 8 i 1 = 0 then (k_up s.1 8 i (upd (s.1 8 i) 11 (k_b (kChg s.1 (s.1 8 i 6) (s.1 8 i 7)))), k_up s.2 8 i (vp_updL (s.2 8 i) 10 (kFold (s.1 2 0) (s.2 8 i 5)))) else s
def kW1 (nA x : Nat) (k : Nat) (I : k_I) : k_I := match kEnd nA I (kPart I x (nI k)) with
  | none => I
  | some e => k_up I 8 x (upd (I 8 x) 12 (I 8 x 12 ||| (kBit (I 8 e 0) ||| I 8 e 12)))
def kWiden (nA x : Nat) (I : k_I) : k_I := kLoop (kW1 nA x) 4 0 I
def kUnd0 (nA : Nat) (I : k_I) : k_I := kLoop (fun a I => k_up I 8 a (upd (I 8 a) 12 0)) nA 0 I
def kUndR (nA : Nat) (I : k_I) : k_I := kLoop (fun a I => kWiden nA a I) nA 0 I
def kUnd (nA : Nat) (I : k_I) : k_I := kLoop (fun _ I => kUndR nA I) 24 0 (kUnd0 nA I)
def kClrS (i : Nat) (I : k_I) : k_I := kLoop (fun a I => k_up I 9 i (upd (I 9 i) a (kAllV (nI a)))) 3 0 I
def kClr1 (i : Nat) (I : k_I) : k_I := k_up I 8 i (upd (I 8 i) 6 0)
def kClr2 (i : Nat) (I : k_I) : k_I := k_up I 8 i (upd (I 8 i) 11 0)
def kClr (i : Nat) (I : k_I) : k_I := kClr2 i (kClr1 i (kClrS i I))
def kClrJ (i : Nat) (J : k_J) : k_J := k_up J 8 i (vp_updL (J 8 i) 5 0)
def kGatS (i j : Nat) (I : k_I) : k_I := kLoop (fun a I => k_up I 9 i (upd (I 9 i) a (I 9 i a &&& kSet I j (nI a)))) 3 0 I
def kGat1 (i j : Nat) (I : k_I) : k_I := k_up I 8 i (upd (I 8 i) 6 (I 8 i 6 ||| I 8 j 6))
def kGat2 (i j : Nat) (I : k_I) : k_I := k_up I 8 i (upd (I 8 i) 11 (if I 8 i 11 = 0 then (if I 8 j 11 = 0 then 0 else 1) else 1))
def kGat (i j : Nat) (I : k_I) : k_I := kGat2 i j (kGat1 i j (kGatS i j I))
def kGatJ (i j : Nat) (J : k_J) : k_J := k_up J 8 i (vp_updL (J 8 i) 5 (J 8 i 5 ||| J 8 j 5))
def kSJ1 (i a : Nat) (s : k_IJ) : k_IJ := if s.1 8 a 1 = 0 then (if s.1 8 i 12 &&& kBit (nI a) = 0 then s else (kGat i a s.1, kGatJ i a s.2)) else s
def kSJf (i : Nat) (s : k_IJ) : k_IJ := (s.1, k_up s.2 8 i (vp_updL (s.2 8 i) 10 (kFold (s.1 2 0) (s.2 8 i 5))))
def kSJ (nA i : Nat) (s : k_IJ) : k_IJ := if s.1 8 i 1 = 1 then kSJf i (kLoop (kSJ1 i) nA 0 (kClr i s.1, kClrJ i s.2)) else s
def kAskF (nK : Nat) (I : k_I) (J : k_J) : k_J := kLoop (fun k J => k_up J 11 k (vp_updL (J 11 k) 2 (kFold (I 2 0) (J 11 k 0)))) nK 0 J
def kSt1 (nA : Nat) (s : k_IJ) : k_IJ := kLoop kSP nA 0 s
def kSt2 (nA : Nat) (s : k_IJ) : k_IJ := kLoop (kSJ nA) nA 0 (kUnd nA s.1, s.2)
def kSt3 (nK : Nat) (s : k_IJ) : k_IJ := (s.1, kAskF nK s.1 s.2)
def kSettle (nA nK : Nat) (s : k_IJ) : k_IJ := kSt3 nK (kSt2 nA (kSt1 nA s))
/-! which kinds stay -/
theorem kSP_C {i : Nat} {s : k_IJ} {c : Nat} (h : c ≠ 8) : (kSP i s).1 c = s.1 c := by
  unfold kSP; split
  · exact k_up_C h
  · rfl
theorem kW1_C {nA x k : Nat} {I : k_I} {c : Nat} (h : c ≠ 8) : kW1 nA x k I c = I c := by
  unfold kW1
  cases kEnd nA I (kPart I x (nI k)) with
  | none => rfl
  | some e => exact k_up_C h
theorem kWiden_C {nA x : Nat} {I : k_I} {c : Nat} (h : c ≠ 8) : kWiden nA x I c = I c := kLoop_eq (g := fun I : k_I => I c) (fun _ _ => kW1_C h) _ _ _
theorem kW1_o {nA x k : Nat} {I : k_I} {c i s : Nat} (h : ¬ (c = 8 ∧ i = x ∧ s = 12)) : kW1 nA x k I c i s = I c i s := by
  unfold kW1
  cases kEnd nA I (kPart I x (nI k)) with
  | none => rfl
  | some q =>
    show k_up I 8 x (upd (I 8 x) 12 _) c i s = I c i s
    by_cases hc : c = 8
    · by_cases hi : i = x
      · subst hc hi
        rw [k_up_s, upd_n (fun e => h ⟨rfl, rfl, e⟩)]
      · subst hc
        rw [k_up_i hi]
    · rw [k_up_C hc]
theorem kWiden_same {nA x : Nat} {I : k_I} (h : kWiden nA x I 8 x 12 = I 8 x 12) : kWiden nA x I = I := by
  funext c i s
  by_cases hk : c = 8 ∧ i = x ∧ s = 12
  · obtain ⟨rfl, rfl, rfl⟩ := hk
    exact h
  · exact kLoop_eq (g := fun I : k_I => I c i s) (fun _ _ => kW1_o hk) _ _ _
theorem kUnd0_C {nA : Nat} {I : k_I} {c : Nat} (h : c ≠ 8) : kUnd0 nA I c = I c := kLoop_eq (g := fun I : k_I => I c) (fun _ _ => k_up_C h) _ _ _
theorem kUndR_C {nA : Nat} {I : k_I} {c : Nat} (h : c ≠ 8) : kUndR nA I c = I c := kLoop_eq (g := fun I : k_I => I c) (fun _ _ => kWiden_C h) _ _ _
theorem kUnd_C {nA : Nat} {I : k_I} {c : Nat} (h : c ≠ 8) : kUnd nA I c = I c := (kLoop_eq (g := fun I : k_I => I c) (fun _ _ => kUndR_C h) _ _ _).trans (kUnd0_C h)
theorem kClrS_C {i : Nat} {I : k_I} {c : Nat} (h : c ≠ 9) : kClrS i I c = I c := kLoop_eq (g := fun I : k_I => I c) (fun _ _ => k_up_C h) _ _ _
theorem kClr_C {i : Nat} {I : k_I} {c : Nat} (h : c ≠ 8) (h9 : c ≠ 9) : kClr i I c = I c := (k_up_C h).trans ((k_up_C h).trans (kClrS_C h9))
theorem kGatS_C {i j : Nat} {I : k_I} {c : Nat} (h : c ≠ 9) : kGatS i j I c = I c := kLoop_eq (g := fun I : k_I => I c) (fun _ _ => k_up_C h) _ _ _
theorem kGat_C {i j : Nat} {I : k_I} {c : Nat} (h : c ≠ 8) (h9 : c ≠ 9) : kGat i j I c = I c := (k_up_C h).trans ((k_up_C h).trans (kGatS_C h9))
theorem kSJ1_C {i a : Nat} {s : k_IJ} {c : Nat} (h : c ≠ 8) (h9 : c ≠ 9) : (kSJ1 i a s).1 c = s.1 c := by
  unfold kSJ1; split
  · split
    · rfl
    · exact kGat_C h h9
  · rfl
theorem kSJ_C {nA i : Nat} {s : k_IJ} {c : Nat} (h : c ≠ 8) (h9 : c ≠ 9) : (kSJ nA i s).1 c = s.1 c := by
  unfold kSJ; split
  · exact (kLoop_eq (g := fun s : k_IJ => s.1 c) (fun _ _ => kSJ1_C h h9) _ _ _).trans (kClr_C h h9)
  · rfl
theorem kSt1_C {nA : Nat} {s : k_IJ} {c : Nat} (h : c ≠ 8) : (kSt1 nA s).1 c = s.1 c := kLoop_eq (g := fun s : k_IJ => s.1 c) (fun _ _ => kSP_C h) _ _ _
theorem kSt2_C {nA : Nat} {s : k_IJ} {c : Nat} (h : c ≠ 8) (h9 : c ≠ 9) : (kSt2 nA s).1 c = s.1 c := by
  have h1 := kLoop_eq (g := fun s : k_IJ => s.1 c) (step := kSJ nA) (fun _ _ => kSJ_C h h9) nA 0 (kUnd nA s.1, s.2)
  have h2 : kUnd nA s.1 c = s.1 c := kUnd_C h
  unfold kSt2
  simp only at h1
  rw [h1, h2]
theorem kSettle_C {nA nK : Nat} {s : k_IJ} {c : Nat} (h : c ≠ 8) (h9 : c ≠ 9) : (kSettle nA nK s).1 c = s.1 c := by
  unfold kSettle kSt3
  simp only
  rw [kSt2_C h h9, kSt1_C h]
theorem kSP_S {nA nK i : Nat} {s : k_IJ} (h : k_S nA nK s.1) : k_S nA nK (kSP i s).1 := h.of (kSP_C (by decide)) (kSP_C (by decide)) (kSP_C (by decide))
theorem kWiden_S {nA nK x : Nat} {I : k_I} (h : k_S nA nK I) : k_S nA nK (kWiden nA x I) := h.of (kWiden_C (by decide)) (kWiden_C (by decide)) (kWiden_C (by decide))
theorem kUnd_S {nA nK : Nat} {I : k_I} (h : k_S nA nK I) : k_S nA nK (kUnd nA I) := h.of (kUnd_C (by decide)) (kUnd_C (by decide)) (kUnd_C (by decide))
theorem kClr_S {nA nK i : Nat} {I : k_I} (h : k_S nA nK I) : k_S nA nK (kClr i I) := h.of (kClr_C (by decide) (by decide)) (kClr_C (by decide) (by decide)) (kClr_C (by decide) (by decide))
theorem kGat_S {nA nK i j : Nat} {I : k_I} (h : k_S nA nK I) : k_S nA nK (kGat i j I) := h.of (kGat_C (by decide) (by decide)) (kGat_C (by decide) (by decide)) (kGat_C (by decide) (by decide))
theorem kSJ_S {nA nK i : Nat} {s : k_IJ} (h : k_S nA nK s.1) : k_S nA nK (kSJ nA i s).1 := h.of (kSJ_C (by decide) (by decide)) (kSJ_C (by decide) (by decide)) (kSJ_C (by decide) (by decide))
theorem kSettle_S {nA nK : Nat} {s : k_IJ} (h : k_S nA nK s.1) : k_S nA nK (kSettle nA nK s).1 := h.of (kSettle_C (by decide) (by decide)) (kSettle_C (by decide) (by decide)) (kSettle_C (by decide) (by decide))
def kLead (nA : Nat) (a t : Int32) (I : k_I) : k_I := kLoop (fun b I => if I 8 b 9 = a then k_up I 8 b (upd (I 8 b) 9 t) else I) nA 0 I
theorem kLead_C {nA : Nat} {a t : Int32} {I : k_I} {c : Nat} (h : c ≠ 8) : kLead nA a t I c = I c := kLoop_eq (g := fun I : k_I => I c) (fun _ I => by split; exact k_up_C h; rfl) _ _ _
theorem kLead_S {nA nK : Nat} {a t : Int32} {I : k_I} (h : k_S nA nK I) : k_S nA nK (kLead nA a t I) := h.of (kLead_C (by decide)) (kLead_C (by decide)) (kLead_C (by decide))
theorem kTurn_S {nA nK : Nat} {w t : Int32} {I : k_I} (h : k_S nA nK I) : k_S nA nK (kTurn I w t) := by
  unfold kTurn; split
  · exact h
  · split
    · exact h
    · exact h.up 2 _ _ (by decide)
def kTakS (i j : Nat) (I : k_I) : k_I := kLoop (fun a I => k_up I 9 i (upd (I 9 i) a (I 9 i a ||| kSet I j (nI a)))) 3 0 I
def kTak1 (i j : Nat) (I : k_I) : k_I := k_up I 8 i (upd (I 8 i) 6 (I 8 i 6 ||| I 8 j 6))
def kTak2 (i j : Nat) (I : k_I) : k_I := k_up I 8 i (upd (I 8 i) 7 (if I 8 j 7 < I 8 i 7 then I 8 j 7 else I 8 i 7))
def kTak3 (i j : Nat) (I : k_I) : k_I := k_up I 8 i (upd (I 8 i) 8 (I 8 i 8 + I 8 j 8))
def kTak (i j : Nat) (I : k_I) : k_I := kTak3 i j (kTak2 i j (kTak1 i j (kTakS i j I)))
theorem kTakS_C {i j : Nat} {I : k_I} {c : Nat} (h : c ≠ 9) : kTakS i j I c = I c := kLoop_eq (g := fun I : k_I => I c) (fun _ _ => k_up_C h) _ _ _
theorem kTak_C {i j : Nat} {I : k_I} {c : Nat} (h : c ≠ 8) (h9 : c ≠ 9) : kTak i j I c = I c := (k_up_C h).trans ((k_up_C h).trans ((k_up_C h).trans (kTakS_C h9)))
theorem kTak_S {nA nK i j : Nat} {I : k_I} (h : k_S nA nK I) : k_S nA nK (kTak i j I) := h.of (kTak_C (by decide) (by decide)) (kTak_C (by decide) (by decide)) (kTak_C (by decide) (by decide))
def kChg1 (I : k_I) : k_I := k_up I 3 0 (upd (I 3 0) 2 (I 3 0 2 + 1))
def kChg2 (t : Nat) (I : k_I) : k_I := k_up I 5 0 (upd (I 5 0) t (I 3 0 2))
def kChg3 (t : Nat) (I : k_I) : k_I := k_up I 4 0 (upd (I 4 0) t (I 4 0 t + 1))
def kChange (I : k_I) (x : Int32) : k_I := if x < 0 then I else if 10 ≤ x then I else kChg3 x.toNatClampNeg (kChg2 x.toNatClampNeg (kChg1 I))
def kChangeV (I : k_I) (x : Int32) : Int32 := if x < 0 then -1001 else if 10 ≤ x then -1001 else kChange I x 4 0 x.toNatClampNeg
theorem kChange_S {nA nK : Nat} {x : Int32} {I : k_I} (h : k_S nA nK I) : k_S nA nK (kChange I x) := by
  unfold kChange; split
  · exact h
  · split
    · exact h
    · exact ((h.up 3 _ _ (by decide)).up 5 _ _ (by decide)).up 4 _ _ (by decide)
def kPutS (i : Nat) (a b c : Int32) (I : k_I) : k_I := kLoop (fun k I => k_up I 9 i (upd (I 9 i) k (if nI k = 0 then a else if nI k = 1 then b else c))) 3 0 I
def kPutP (i : Nat) (a b c d : Int32) (I : k_I) : k_I := kLoop (fun k I => k_up I 10 i (upd (I 10 i) k (if nI k = 0 then a else if nI k = 1 then b else if nI k = 2 then c else d))) 4 0 I
