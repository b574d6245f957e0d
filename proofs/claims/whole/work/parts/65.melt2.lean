/-! melt as a call -/
theorem mMeJ_v {i j : Nat} {J : k_J} : (∀ c, c ≠ 29 → mMeJ i j J c = J c) ∧ ∀ x, mMeJ i j J 29 0 x = if x = i then (J 29 0 i ||| J 29 0 j) else J 29 0 x := by
  refine ⟨fun c hc => mwJ_C hc, fun x => ?_⟩
  unfold mMeJ
  rw [mwJ_s]
  by_cases h : x = i
  · subst h; rw [updL_s, if_pos rfl]
  · rw [updL_n h, if_neg h]
theorem mMeJ_hi {i j : Nat} {S L : k_J} (h : ∀ c, 13 ≤ c → S c = L c) : ∀ c, 13 ≤ c → mMeJ i j S c = mMeJ i j L c := by
  intro c hc
  unfold mMeJ mwJ
  rw [h 29 (by decide)]
  funext i'
  simp only [k_up, h c hc]
theorem kGatJ_v {i j : Nat} {J : k_J} : (∀ c, c ≠ 8 → kGatJ i j J c = J c) ∧ (∀ x, x ≠ i → kGatJ i j J 8 x = J 8 x) ∧ kGatJ i j J 8 i 5 = (J 8 i 5 ||| J 8 j 5) := by
  refine ⟨fun c hc => k_up_C hc, fun x hx => k_up_i hx, ?_⟩
  unfold kGatJ
  rw [k_up_s, updL_s]
theorem RR_melt {nA nK : Nat} {E : Nat → Nat} {I : k_I} {J : k_J} (a b : Int32) (h : RR nA nK E I J) : k_St RR nA nK E (cMelt nA nK a b (I, J)).2 (cMelt nA nK a b (I, J)).1 (mcMelt nA a b (cMelt nA nK a b (I, J)).2).1 nA nK (mcMelt nA a b (cMelt nA nK a b (I, J)).2).2 := by
  have h24 := h.ms.2.2.1
  unfold cMelt mcMelt
  cases ha : kAns nA a with
  | none => exact k_St.same h rfl
  | some i =>
    have hi := kAns_b ha
    have ea := kAns_e (by omega) ha
    cases hb : kAns nA b with
    | none => exact k_St.same h rfl
    | some j =>
      have hj := kAns_b hb
      have eb := kAns_e (by omega) hb
      subst ea; subst eb
      simp only
      by_cases hij : nI i = nI j
      · simp only [if_pos hij]
        exact k_St.same h rfl
      · have hne : j ≠ i := fun q => hij (by rw [q])
        simp only [if_neg hij, kMay_m h hi hj]
        by_cases hm : mMay I i j = true
        · simp only [if_pos hm]
          unfold cMelt2
          simp only
          obtain ⟨t1, t2, t3, t4, t5, t6, t7⟩ := kTak_v hne (I := I)
          have hpp : mPl I i = true ∧ mPl I j = true := by
            unfold mMay at hm
            rw [Bool.and_eq_true, Bool.and_eq_true] at hm
            exact ⟨hm.1, hm.2.1⟩
          obtain ⟨hi27, hi28⟩ := mPl_k hpp.1
          obtain ⟨hj27, hj28⟩ := mPl_k hpp.2
          have hEi : E i = i := (h.ms.self hi).mp hi28
          have hEj : E j = j := (h.ms.self hj).mp hj28
          rw [(t2 j hne).1, h.raw.num j hj, t3 0 (by decide) (by decide) (by decide), h.raw.num i hi]
          have t8 : ∀ x k, k ≠ 6 → k ≠ 7 → k ≠ 8 → kTak i j I 8 x k = I 8 x k := fun x k h6 h7 h8 => by
            by_cases hx : x = i
            · subst hx; exact t3 k h6 h7 h8
            · rw [(t2 x hx).1]
          generalize kTak i j I = T at t1 t2 t3 t4 t5 t6 t7 t8
          have hT : m_S nA nK E T := h.ms.low (t1 13 (by decide) (by decide)) (t1 28 (by decide) (by decide)) (t1 35 (by decide) (by decide))
          obtain ⟨l1, l2, -⟩ := kLead_v (nA := nA) (a := nI j) (t := nI i) (I := T)
          have l3 := kLead_E hT (fun x hx => (t8 x 9 (by decide) (by decide) (by decide)).trans (h.raw.ends x hx)) (t := i) hj
          generalize kLead nA (nI j) (nI i) T = K at l1 l2 l3
          have hK : m_S nA nK E K := hT.low (l1 13 (by decide)) (l1 28 (by decide)) (l1 35 (by decide))
          have kc : ∀ c, c ≠ 8 → c ≠ 9 → K c = I c := fun c h8 h9 => (l1 c h8).trans (t1 c h8 h9)
          obtain ⟨g1, g2, g3⟩ := kGatJ_v (i := i) (j := j) (J := J)
          generalize kGatJ i j J = L at g1 g2 g3
          have hs1 : ∀ c, 13 ≤ c → (kSettle nA nK (K, L)).1 c = I c := fun c hc => (kSettle_hi hc).1.trans (kc c (by omega) (by omega))
          rw [mMay_of (hs1 27 (by decide)) (hs1 28 (by decide)) (hs1 30 (by decide)) (hs1 31 (by decide)), if_pos hm]
          obtain ⟨x1, x2, x3, x4, x5, x6, x7⟩ := mMe_v hne (I := K)
          obtain ⟨s1, -⟩ := mMe_v hne (I := (kSettle nA nK (K, L)).1)
          obtain ⟨y1, y2⟩ := mMeJ_v (i := i) (j := j) (J := L)
          have hlead := hK.lead hj hi hEj (by rw [hEi]; exact fun q => hne q.symm)
          rw [hEi] at hlead
          refine ⟨kSettle_mS hK, rfl, g_E2 E j i, RR_late (F := (mMe i j (kSettle nA nK (K, L)).1, mMeJ i j (kSettle nA nK (K, L)).2)) (K := K) (L := L) (X := mMe i j K) (Y := mMeJ i j L) (fun c hc => x1 c (by omega) (by omega) (by omega) (by omega) (by omega)) (fun c hc => y1 c (by omega)) (fun c hc => s1 c (by omega) (by omega) (by omega) (by omega) (by omega)) (fun c h1 _ => mMe_hi (fun c hc => (kSettle_hi hc).1) c h1) (fun c hc => mwJ_C (by omega)) (fun c h1 _ => mMeJ_hi (fun c hc => (kSettle_hi hc).2) c h1) ?_ ?_ ?_ ?_ ?_ (fun x hx => by
            rw [x2, mwx, kc 28 (by decide) (by decide)]
            by_cases hxj : x = j
            · rw [if_pos hxj]; exact Or.inr ⟨i, hi, rfl⟩
            · rw [if_neg hxj]; exact h.led x hx)⟩
          · generalize mMe i j K = X at x1
            have xc : ∀ c, c ≠ 8 → c ≠ 9 → c ≠ 28 → c ≠ 31 → c ≠ 32 → c ≠ 33 → c ≠ 34 → X c = I c := fun c a b d e f g i => (x1 c d e f g i).trans (kc c a b)
            exact h.ks.of (xc 0 (by decide) (by decide) (by decide) (by decide) (by decide) (by decide) (by decide)) (xc 6 (by decide) (by decide) (by decide) (by decide) (by decide) (by decide) (by decide)) (xc 7 (by decide) (by decide) (by decide) (by decide) (by decide) (by decide) (by decide))
          · exact hlead.low ((x1 13 (by decide) (by decide) (by decide) (by decide) (by decide)).trans (mw_C (by decide)).symm) x2 ((x1 35 (by decide) (by decide) (by decide) (by decide) (by decide)).trans (mw_C (by decide)).symm)
          · rw [x1 6 (by decide) (by decide) (by decide) (by decide) (by decide), kc 6 (by decide) (by decide)]; exact h.z6
          · rw [x1 7 (by decide) (by decide) (by decide) (by decide) (by decide), kc 7 (by decide) (by decide)]; exact h.z7
          · generalize mMe i j K = X at x1 x2 x3 x4 x5 x6 x7
            generalize mMeJ i j L = Y at y1 y2
            have xc : ∀ c, c ≠ 8 → c ≠ 9 → c ≠ 28 → c ≠ 31 → c ≠ 32 → c ≠ 33 → c ≠ 34 → X c = I c := fun c a b d e f g i => (x1 c d e f g i).trans (kc c a b)
            have x8 : ∀ x k, k ≠ 9 → X 8 x k = T 8 x k := fun x k hk => by rw [x1 8 (by decide) (by decide) (by decide) (by decide) (by decide)]; exact l2 x k hk
            have x80 : ∀ x k, k ≠ 6 → k ≠ 7 → k ≠ 8 → k ≠ 9 → X 8 x k = I 8 x k := fun x k h6 h7 h8 h9 => (x8 x k h9).trans (t8 x k h6 h7 h8)
            have x9 : X 9 = T 9 := (x1 9 (by decide) (by decide) (by decide) (by decide) (by decide)).trans (l1 9 (by decide))
            have e27 := xc 27 (by decide) (by decide) (by decide) (by decide) (by decide) (by decide) (by decide)
            have e35 := xc 35 (by decide) (by decide) (by decide) (by decide) (by decide) (by decide) (by decide)
            have e13 := xc 13 (by decide) (by decide) (by decide) (by decide) (by decide) (by decide) (by decide)
            have e0 := xc 0 (by decide) (by decide) (by decide) (by decide) (by decide) (by decide) (by decide)
            have k31 := kc 31 (by decide) (by decide)
            have k32 := kc 32 (by decide) (by decide)
            have k33 := kc 33 (by decide) (by decide)
            have k34 := kc 34 (by decide) (by decide)
            obtain ⟨a1, a2, a3, a4, a5, a6, a7, a8, a9, b1, b2, b3, b4, b5, b6, b7, b8, b9, c1, c2⟩ := h.raw
            refine ⟨?_, ?_, ?_, ?_, ?_, ?_, ?_, ?_, ?_, ?_, ?_, ?_, ?_, ?_, ?_, ?_, ?_, ?_, ?_, ?_⟩
            · rw [e0, e13]; exact a1
            · rw [e0, e13]; exact a2
            · rw [xc 2 (by decide) (by decide) (by decide) (by decide) (by decide) (by decide) (by decide), xc 20 (by decide) (by decide) (by decide) (by decide) (by decide) (by decide) (by decide)]; exact a3
            · rw [xc 3 (by decide) (by decide) (by decide) (by decide) (by decide) (by decide) (by decide), e13]; exact a4
            · rw [xc 4 (by decide) (by decide) (by decide) (by decide) (by decide) (by decide) (by decide), xc 5 (by decide) (by decide) (by decide) (by decide) (by decide) (by decide) (by decide), xc 21 (by decide) (by decide) (by decide) (by decide) (by decide) (by decide) (by decide), xc 22 (by decide) (by decide) (by decide) (by decide) (by decide) (by decide) (by decide)]; exact a5
            · intro x hx; rw [x80 x 0 (by decide) (by decide) (by decide) (by decide)]; exact a6 x hx
            · intro x hx; rw [x80 x 1 (by decide) (by decide) (by decide) (by decide), e27]; exact a7 x hx
            · intro x hx; rw [x80 x 2 (by decide) (by decide) (by decide) (by decide), xc 30 (by decide) (by decide) (by decide) (by decide) (by decide) (by decide) (by decide)]; exact a8 x hx
            · intro x hx; rw [x1 8 (by decide) (by decide) (by decide) (by decide) (by decide)]; exact l3 x hx
            · intro x hx
              rw [x8 x 8 (by decide), x7, k34]
              by_cases hxi : x = i
              · subst hxi; rw [if_pos rfl, t7, b1 x hx, b1 j hj]
              · rw [if_neg hxi, (t2 x hxi).1]; exact b1 x hx
            · rw [xc 10 (by decide) (by decide) (by decide) (by decide) (by decide) (by decide) (by decide), e35]; exact b2
            · rw [e35]; exact b3
            · rw [e27, e35]; exact b4
            · intro x hx hx0
              rw [e27] at hx0
              rw [y1 8 (by decide), y2, g1 29 (by decide)]
              by_cases hxi : x = i
              · subst hxi; rw [if_pos rfl, g3, b5 x hx hx0, b5 j hj hj27]
              · rw [if_neg hxi, g2 x hxi]; exact b5 x hx hx0
            · intro x hx hx0 k hk
              rw [e27] at hx0
              rw [x9]
              by_cases hxi : x = i
              · subst hxi
                rw [t4 k hk, x4 k hk, k31, (b6 x hx hx0 k hk).1, (b6 j hj hj27 k hk).1]
                refine ⟨rfl, fun b hb => ?_⟩
                rw [b_or, (b6 x hx hx0 k hk).2 b hb, (b6 j hj hj27 k hk).2 b hb]; rfl
              · rw [x3 x hxi k hk, k31, (t2 x hxi).2]
                exact b6 x hx hx0 k hk
            · intro x hx hx0
              rw [e27] at hx0
              rw [x8 x 6 (by decide), x5, k32]
              by_cases hxi : x = i
              · subst hxi; rw [if_pos rfl, t5, b7 x hx hx0, b7 j hj hj27]
              · rw [if_neg hxi, (t2 x hxi).1]; exact b7 x hx hx0
            · intro x hx hx0
              rw [e27] at hx0
              rw [x8 x 7 (by decide), x6, k33]
              by_cases hxi : x = i
              · subst hxi
                rw [if_pos rfl, t6, b8 x hx hx0, b8 j hj hj27]
                by_cases hc : I 33 0 j < I 33 0 x
                · rw [if_pos hc, if_neg (by rw [Int32.le_iff_toInt_le]; rw [Int32.lt_iff_toInt_lt] at hc; omega)]
                · rw [if_neg hc, if_pos (by rw [Int32.le_iff_toInt_le]; rw [Int32.lt_iff_toInt_lt] at hc; omega)]
              · rw [if_neg hxi, (t2 x hxi).1]; exact b8 x hx hx0
            · rw [y1 11 (by decide), y1 37 (by decide), g1 11 (by decide), g1 37 (by decide)]; exact b9
            · rw [xc 12 (by decide) (by decide) (by decide) (by decide) (by decide) (by decide) (by decide), xc 38 (by decide) (by decide) (by decide) (by decide) (by decide) (by decide) (by decide)]; exact c1
            · rw [e35]
              obtain ⟨r, hr⟩ := c2
              refine g_R_lead h.ms hr hi (fun q => hne q.symm) fun hu => ?_
              obtain ⟨e, ⟨k, hk, hn, _⟩, _⟩ := g_U_iff.mp hu
              exact hn (b4 i hi hi27 k hk)
        · simp only [if_neg hm]
          exact k_St.same h rfl
