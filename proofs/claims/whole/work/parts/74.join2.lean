/-! join as a call -/
theorem mPlX_of {nA : Nat} {I I' : k_I} (h27 : I' 27 = I 27) (h28 : I' 28 = I 28) (a : Int32) : mPlX nA I' a = mPlX nA I a := by
  unfold mPlX
  cases kAns nA a with
  | none => rfl
  | some i => exact mPl_of h27 h28 i
theorem kPutP_v (n : Nat) (a b c d : Int32) (I : k_I) : (∀ c', c' ≠ 10 → kPutP n a b c d I c' = I c') ∧ (∀ x, x ≠ n → kPutP n a b c d I 10 x = I 10 x) ∧ ∀ k, k < 4 → kPutP n a b c d I 10 n k = if nI k = 0 then a else if nI k = 1 then b else if nI k = 2 then c else d := by
  have key := kLoop_i0 (step := fun k I => k_up I 10 n (upd (I 10 n) k (if nI k = 0 then a else if nI k = 1 then b else if nI k = 2 then c else d))) (fun m r => (∀ c', c' ≠ 10 → r c' = I c') ∧ (∀ x, x ≠ n → r 10 x = I 10 x) ∧ ∀ k, k < m → r 10 n k = if nI k = 0 then a else if nI k = 1 then b else if nI k = 2 then c else d) 4 I ⟨fun _ _ => rfl, fun _ _ => rfl, fun k hk => absurd hk (Nat.not_lt_zero _)⟩ (by
    rintro m r hm ⟨h1, h2, h3⟩
    refine ⟨fun c' hc => (k_up_C hc).trans (h1 c' hc), fun x hx => (k_up_i hx).trans (h2 x hx), fun k hk => ?_⟩
    rw [k_up_s]
    by_cases hkm : k = m
    · subst hkm; rw [upd_s]
    · rw [upd_n hkm]; exact h3 k (by omega))
  exact key
theorem mJoI_v (n : Nat) (a b c d : Int32) (K : k_I) : (∀ e, e ≠ 35 → mJoI n a b c d K e = mFr n 1 K e) ∧ (∀ i, i ≠ n → ∀ k, k < 4 → mJoI n a b c d K 35 0 (4 * i + k) = mFr n 1 K 35 0 (4 * i + k)) ∧ ∀ k, k < 4 → mJoI n a b c d K 35 0 (4 * n + k) = if nI k = 0 then a else if nI k = 1 then b else if nI k = 2 then c else d := by
  unfold mJoI
  generalize mFr n 1 K = Z
  refine ⟨fun e h => by rw [mw_C h, mw_C h, mw_C h, mw_C h], fun i hi k hk => ?_, fun k hk => ?_⟩
  · rw [mwx, if_neg (by omega), mwx, if_neg (by omega), mwx, if_neg (by omega), mwx, if_neg (by omega)]
  · rcases (show k = 0 ∨ k = 1 ∨ k = 2 ∨ k = 3 by omega) with rfl | rfl | rfl | rfl
    · rw [mwx, if_neg (by omega), mwx, if_neg (by omega), mwx, if_neg (by omega), mwx, if_pos (show 4 * n + 0 = 4 * n from rfl)]; rfl
    · rw [mwx, if_neg (by omega), mwx, if_neg (by omega), mwx, if_pos rfl]; rfl
    · rw [mwx, if_neg (by omega), mwx, if_pos rfl]; rfl
    · rw [mwx, if_pos rfl]; rfl
theorem mJoI_hi {n : Nat} {a b c d : Int32} {S K : k_I} (h : ∀ e, 13 ≤ e → S e = K e) : ∀ e, 13 ≤ e → mJoI n a b c d S e = mJoI n a b c d K e :=
  hi_mw (hi_mw (hi_mw (hi_mw (mFr_hi h) (by decide)) (by decide)) (by decide)) (by decide)
theorem cJoinOk1_m {n : Nat} (hn : n < 2 ^ 31) (a b c d : Int32) : cJoinOk1 n a b c d = (mIs n a && (mIs n b && ((decide (c = -1) || mIs n c) && (decide (d = -1) || mIs n d)))) := by
  unfold cJoinOk1
  rw [kIsA_m hn, kIsA_m hn, kIsA_m hn, kIsA_m hn]
theorem RR_join {nA nK : Nat} {E : Nat → Nat} {I : k_I} {J : k_J} (a b c d : Int32) (h : RR nA nK E I J) : k_St RR nA nK E (cJoin nA nK a b c d (I, J)).2.2 (cJoin nA nK a b c d (I, J)).1 (mcJoin nA a b c d (cJoin nA nK a b c d (I, J)).2.2).1 (cJoin nA nK a b c d (I, J)).2.1 nK (mcJoin nA a b c d (cJoin nA nK a b c d (I, J)).2.2).2 := by
  have h24 := h.ms.2.2.1
  unfold cJoin mcJoin
  rw [← cJoinOk1_m (by omega)]
  by_cases hok : cJoinOk1 nA a b c d = true
  · simp only [if_pos hok]
    have hs := hok
    rw [cJoinOk1_m (by omega), Bool.and_eq_true, Bool.and_eq_true, Bool.and_eq_true, Bool.or_eq_true, Bool.or_eq_true, decide_eq_true_eq, decide_eq_true_eq] at hs
    obtain ⟨p, hp, ep⟩ := mIs_nat (by omega) hs.1
    obtain ⟨q, hq, eq⟩ := mIs_nat (by omega) hs.2.1
    have hc : c = -1 ∨ ∃ r, r < nA ∧ c = nI r := hs.2.2.1.imp id (fun z => mIs_nat (by omega) z)
    have hd : d = -1 ∨ ∃ r, r < nA ∧ d = nI r := hs.2.2.2.imp id (fun z => mIs_nat (by omega) z)
    have hj := kJoinOk_m h hp hq hc hd
    rw [← ep, ← eq] at hj
    by_cases hok2 : cJoinOk2 nA I a b c d = true
    · rw [if_pos hok2]
      by_cases hfull : nI nA = 24
      · have hf2 : ¬ nI nA < 24 := fun q => (nI_lt24 (N := 24) h24 (by decide) rfl).mp q hfull
        simp only [if_neg hf2]
        rw [← hj, if_pos hok2, if_pos hfull]
        exact k_St.same h rfl
      · have hf2 : nI nA < 24 := (nI_lt24 (N := 24) h24 (by decide) rfl).mpr hfull
        have hn : nA < 24 := (nI_ltI (b := 24) (by omega) (by decide)).mp hf2
        simp only [if_pos hf2, if_neg hfull]
        unfold cJoin2
        simp only
        obtain ⟨n1, n2, n3, n4⟩ := kNew_v nA 1 (-1) I
        generalize kNew nA 1 (-1) I = N0 at n1 n2 n3 n4
        obtain ⟨s1, s2, s3⟩ := kPutP_v nA a b c d N0
        generalize kPutP nA a b c d N0 = N1 at s1 s2 s3
        obtain ⟨k1, k2, k3, k4⟩ := kKeep_v nA N1
        generalize kKeep nA N1 = K at k1 k2 k3 k4
        have kc : ∀ c, c ≠ 0 → c ≠ 6 → c ≠ 8 → c ≠ 9 → c ≠ 10 → K c = I c := fun c h0 h6 h8 h9 h10 => by rw [k1 c h0 h6, s1 c h10, n1 c h8 h9 h10]
        have k8n : K 8 nA = kAn8 (nI nA) 1 (-1) := by rw [k1 8 (by decide) (by decide), s1 8 (by decide), n3]
        have l1 : ∀ c, c ≠ 8 → kNewJ nA J c = J c := fun c hc => k_up_C hc
        have l2 : ∀ x, x ≠ nA → kNewJ nA J 8 x = J 8 x := fun x hx => k_up_i hx
        generalize kNewJ nA J = L at l1 l2
        have z := mFr_v (n := nA) (k := 1) (I := K)
        obtain ⟨x1, x3, x4⟩ := mJoI_v nA a b c d K
        have hK : m_S nA nK E K := h.ms.low (kc 13 (by decide) (by decide) (by decide) (by decide) (by decide)) (kc 28 (by decide) (by decide) (by decide) (by decide) (by decide)) (kc 35 (by decide) (by decide) (by decide) (by decide) (by decide))
        have hS27 : (kSettle (nA + 1) nK (K, L)).1 27 = I 27 := (kSettle_hi (by decide)).1.trans (kc 27 (by decide) (by decide) (by decide) (by decide) (by decide))
        have hS28 : (kSettle (nA + 1) nK (K, L)).1 28 = I 28 := (kSettle_hi (by decide)).1.trans (kc 28 (by decide) (by decide) (by decide) (by decide) (by decide))
        rw [mPlX_of hS27 hS28, mPlX_of hS27 hS28, mPlX_of hS27 hS28, mPlX_of hS27 hS28, ← hj, if_pos hok2]
        have y1 : ∀ e, e ≠ 29 → mFrJ nA L e = L e := fun e he => mwJ_C he
        have y3 : ∀ x, x ≠ nA → mFrJ nA L 29 0 x = L 29 0 x := fun x hx => by
          unfold mFrJ
          rw [mwJ_s, updL_n hx]
        have k13 := kc 13 (by decide) (by decide) (by decide) (by decide) (by decide)
        have o : k_Old nA I J (mJoI nA a b c d K) (mFrJ nA L) := by
          refine ⟨fun e h0 h6 h8 h9 h10 h13 hc _ => ?_, fun k hk => ?_, fun k hk => ?_, fun x hx => ⟨?_, ?_, ?_⟩, fun e hc1 hc2 hc3 x hx => ?_, fun x hx k hk => ?_, fun x hx k hk => ?_, fun e h8 h29 _ => ?_, fun x hx => ⟨?_, ?_⟩⟩
          · rw [x1 e (by omega), z.fc e h13 (by omega), kc e h0 h6 h8 h9 h10]
          · rw [x1 0 (by decide), z.fc 0 (by decide) (by decide), k2 k hk, s1 0 (by decide), n1 0 (by decide) (by decide) (by decide)]
          · rw [x1 13 (by decide), z.f13 k hk, k13]
          · rw [x1 8 (by decide), z.fc 8 (by decide) (by decide), k1 8 (by decide) (by decide), s1 8 (by decide), (n2 x hx).1]
          · rw [x1 9 (by decide), z.fc 9 (by decide) (by decide), k1 9 (by decide) (by decide), s1 9 (by decide), (n2 x hx).2.1]
          · rw [x1 10 (by decide), z.fc 10 (by decide) (by decide), k1 10 (by decide) (by decide), s2 x hx, (n2 x hx).2.2]
          · have kk := kc e (by omega) (by omega) (by omega) (by omega) (by omega)
            rcases (show e = 27 ∨ e = 28 ∨ e = 29 ∨ e = 30 ∨ e = 32 ∨ e = 33 ∨ e = 34 by omega) with rfl | rfl | rfl | rfl | rfl | rfl | rfl
            · rw [x1 27 (by decide), z.f27, if_neg hx, kk]
            · rw [x1 28 (by decide), z.f28, if_neg hx, kk]
            · rw [x1 29 (by decide), z.fc 29 (by decide) (by decide), kk]
            · rw [x1 30 (by decide), z.f30, if_neg hx, kk]
            · rw [x1 32 (by decide), z.f32, if_neg hx, kk]
            · rw [x1 33 (by decide), z.f33, if_neg hx, kk]
            · rw [x1 34 (by decide), z.f34, if_neg hx, kk]
          · rw [x1 31 (by decide), z.fc 31 (by decide) (by decide), kc 31 (by decide) (by decide) (by decide) (by decide) (by decide)]
          · rw [x3 x hx k hk, z.f35 x hx k hk, kc 35 (by decide) (by decide) (by decide) (by decide) (by decide)]
          · rw [y1 e h29, l1 e h8]
          · rw [y1 8 (by decide), l2 x hx]
          · rw [y3 x hx, l1 29 (by decide)]
        have x8 : mJoI nA a b c d K 8 nA = kAn8 (nI nA) 1 (-1) := by rw [x1 8 (by decide), z.fc 8 (by decide) (by decide), k8n]
        have x27 : mJoI nA a b c d K 27 0 nA = 1 := by rw [x1 27 (by decide), z.f27, if_pos rfl]
        have hno : ¬ mJoI nA a b c d K 27 0 nA = 0 := by rw [x27]; decide
        have hcd : c = -1 → d = -1 := by
          intro e
          unfold cJoinOk2 at hok2
          rw [Bool.and_eq_true, Bool.or_eq_true, Bool.not_eq_true', decide_eq_false_iff_not, decide_eq_true_eq] at hok2
          exact hok2.1.resolve_left (fun z => z e)
        have pn : ∀ v : Int32, (∃ r, r < nA ∧ v = nI r) → ¬ v < 0 := fun v ⟨r, hr, e⟩ => by rw [e]; exact nI_pos (by omega)
        have nw : k_NwA nA (mJoI nA a b c d K) (mFrJ nA L) := by
          refine ⟨?_, ⟨?_, Or.inr x27⟩, ?_, ?_, ?_, fun k hk => ?_, fun k hk => ?_, fun k hk hneg => ?_, fun z => absurd z hno, fun z => absurd z hno, fun z => absurd z hno, fun z => absurd z hno, fun z => absurd z hno, ?_⟩
          · rw [x8]; rfl
          · rw [x8, x27]; rfl
          · rw [x8, x1 30 (by decide), z.f30, if_pos rfl]; rfl
          · rw [x8]; rfl
          · rw [x8, x1 34 (by decide), z.f34, if_pos rfl]; rfl
          · rw [x4 k hk, x1 10 (by decide), z.fc 10 (by decide) (by decide), k1 10 (by decide) (by decide), s3 k hk]
          · rw [x4 k hk]
            rcases (show k = 0 ∨ k = 1 ∨ k = 2 ∨ k = 3 by omega) with rfl | rfl | rfl | rfl
            · exact Or.inr ⟨p, hp, ep⟩
            · exact Or.inr ⟨q, hq, eq⟩
            · exact hc
            · exact hd
          · rw [x4 (k + 1) (by omega)]
            rw [x4 k (by omega)] at hneg
            rcases (show k = 0 ∨ k = 1 ∨ k = 2 by omega) with rfl | rfl | rfl
            · exact absurd hneg (pn _ ⟨p, hp, ep⟩)
            · exact absurd hneg (pn _ ⟨q, hq, eq⟩)
            · show d < 0
              rcases hc with e | e
              · rw [hcd e]; decide
              · exact absurd hneg (pn _ e)
          · rw [x1 28 (by decide), z.f28, if_pos rfl]
        have h6 : mJoI nA a b c d K 13 0 6 = nI (nA + 1) := by rw [x1 13 (by decide), z.f6, k13, h.ms.1, nI_1]
        have hRR : RR (nA + 1) nK (g_Ew E nA) (mJoI nA a b c d (kSettle (nA + 1) nK (K, L)).1) (mFrJ nA (kSettle (nA + 1) nK (K, L)).2) := by
          refine RR_late (F := (mJoI nA a b c d (kSettle (nA + 1) nK (K, L)).1, mFrJ nA (kSettle (nA + 1) nK (K, L)).2)) (K := K) (L := L) (X := mJoI nA a b c d K) (Y := mFrJ nA L) (fun e he => ?_) (fun e he => y1 e (by omega)) (fun e he => ?_) (fun e h1 _ => mJoI_hi (fun e he => (kSettle_hi he).1) e h1) (fun e he => mwJ_C (by omega)) (fun e h1 _ => hi_mwJ (fun e he => (kSettle_hi he).2) (by decide) e h1) (h.ks.grow o hn ?_ ?_) (h.ms.grow h.led o nw hn h6) (fun j hj => ?_) ?_ (h.raw.grow h.ms o nw hn) (h.led.grow o nw)
          · rw [x1 e (by omega), z.fc e (by omega) (by omega)]
          · show mJoI nA a b c d (kSettle (nA + 1) nK (K, L)).1 e = _
            rw [(mJoI_v nA a b c d _).1 e (by omega), mFr_v.fc e (by omega) (by omega)]
          · rw [x1 0 (by decide), z.fc 0 (by decide) (by decide), k3]
          · intro j
            rw [x1 6 (by decide), z.fc 6 (by decide) (by decide), k4, s1 6 (by decide), n1 6 (by decide) (by decide) (by decide)]
          · rw [x1 6 (by decide), z.fc 6 (by decide) (by decide), k4, if_neg (by omega), s1 6 (by decide), n1 6 (by decide) (by decide) (by decide)]
            exact h.z6 j (by omega)
          · rw [o.oc 7 (by decide) (by decide) (by decide) (by decide) (by decide) (by decide) (by decide) (by decide)]; exact h.z7
        refine ⟨kSettle_mS hK, ?_, g_Ew E nA, hRR⟩
        have e := hRR.raw.num nA (by omega)
        rw [(mJoI_v nA a b c d _).1 8 (by decide), mFr_v.fc 8 (by decide) (by decide)] at e
        exact e
    · simp only [if_neg hok2]
      rw [← hj, if_neg hok2]
      exact k_St.same h rfl
  · simp only [if_neg hok]
    exact k_St.same h rfl
