/-! calls: fold, changed, rule, vote, bind, confirm -/
theorem hi_up {S K : k_I} {a i : Nat} {f : Nat → Int32} (h : ∀ c, 13 ≤ c → S c = K c) : ∀ c, 13 ≤ c → k_up S a i f c = k_up K a i f c := by
  intro c hc
  funext i'
  simp only [k_up, h c hc]
theorem hi_mw {S K : k_I} {a j : Nat} {x : Int32} (h : ∀ c, 13 ≤ c → S c = K c) (ha : 13 ≤ a) : ∀ c, 13 ≤ c → mw a j x S c = mw a j x K c := by
  unfold mw
  rw [h a ha]
  exact hi_up h
theorem kW_n {v B : Int32} {b : Nat} (hB : B.toInt = b) (h : kWithin v 0 B = true) : ∃ n, n ≤ b ∧ v = nI n := by
  unfold kWithin at h
  simp only [Bool.and_eq_true, Bool.not_eq_true', decide_eq_false_iff_not] at h
  refine nI_of2 hB h.1 ?_
  have h2 := h.2
  rw [Int32.lt_iff_toInt_lt] at h2
  rw [Int32.le_iff_toInt_le]
  omega
theorem mIn_k {v b : Int32} {B : Int64} (hb : Int32.toInt64 b = B) : mIn (Int32.toInt64 v) 0 B = kWithin v 0 b := mIn_32 (a := 0) rfl hb
theorem mIn_39 {v : Int32} : mIn (Int32.toInt64 v) 0 39 = kWithin v 0 39 := mIn_k (b := 39) rfl
theorem mIn_1023 {v : Int32} : mIn (Int32.toInt64 v) 0 1023 = kWithin v 0 1023 := mIn_k (b := 1023) rfl
theorem mIn_9 {v : Int32} : mIn (Int32.toInt64 v) 0 9 = kWithin v 0 9 := mIn_k (b := 9) rfl
theorem mIn_13 {v : Int32} : mIn (Int32.toInt64 v) 0 13 = kWithin v 0 13 := mIn_k (b := 13) rfl
theorem mIn_7 {v : Int32} : mIn (Int32.toInt64 v) 0 7 = kWithin v 0 7 := mIn_k (b := 7) rfl
theorem mIn_3 {v : Int32} : mIn (Int32.toInt64 v) 0 3 = kWithin v 0 3 := mIn_k (b := 3) rfl
theorem mIn_1 {v : Int32} : mIn (Int32.toInt64 v) 0 1 = kWithin v 0 1 := mIn_k (b := 1) rfl
theorem mIn_2 {v : Int32} : mIn (Int32.toInt64 v) 0 2 = kWithin v 0 2 := mIn_k (b := 2) rfl
theorem mIn_4 {v : Int32} : mIn (Int32.toInt64 v) 0 4 = kWithin v 0 4 := mIn_k (b := 4) rfl
theorem mIn_8 {v : Int32} : mIn (Int32.toInt64 v) 0 8 = kWithin v 0 8 := mIn_k (b := 8) rfl
theorem mIn_10 {v : Int32} : mIn (Int32.toInt64 v) 0 10 = kWithin v 0 10 := mIn_k (b := 10) rfl
theorem mIn_200 {v : Int32} : mIn (Int32.toInt64 v) 0 200 = kWithin v 0 200 := mIn_k (b := 200) rfl
theorem up8 {I : k_I} {i k0 : Nat} {v : Int32} {x k : Nat} (hk : k ≠ k0) : k_up I 8 i (upd (I 8 i) k0 v) 8 x k = I 8 x k := by
  by_cases h : x = i
  · subst h; rw [k_up_s, upd_n hk]
  · rw [k_up_i h]
theorem up8s {I : k_I} {i k0 : Nat} {v : Int32} {x : Nat} : k_up I 8 i (upd (I 8 i) k0 v) 8 x k0 = if x = i then v else I 8 x k0 := by
  by_cases h : x = i
  · subst h; rw [if_pos rfl, k_up_s, upd_s]
  · rw [if_neg h, k_up_i h]
theorem mwx {I : k_I} {a i x : Nat} {v : Int32} : mw a i v I a 0 x = if x = i then v else I a 0 x := by
  rw [mw_s]
  by_cases h : x = i
  · subst h; rw [if_pos rfl, upd_s]
  · rw [if_neg h, upd_n h]
/-- with the slots 6, 7, 8 of answers written -/
theorem k_Raw.slot {nA nK : Nat} {E : Nat → Nat} {I X : k_I} {J Y : k_J} (raw : k_Raw nA nK E I J) (h8 : ∀ x k, k ≠ 6 → k ≠ 7 → k ≠ 8 → X 8 x k = I 8 x k) (hI : ∀ c, c ≠ 8 → c ≠ 32 → c ≠ 33 → c ≠ 34 → c < 39 → X c = I c) (hJ : ∀ c, c < 39 → Y c = J c) (hv : ∀ i, i < nA → X 8 i 8 = X 34 0 i) (hb : ∀ i, i < nA → I 27 0 i = 0 → X 8 i 6 = X 32 0 i) (hs : ∀ i, i < nA → I 27 0 i = 0 → X 8 i 7 = X 33 0 i) : k_Raw nA nK E X Y := by
  have q : ∀ c, c ≠ 8 → c ≠ 32 → c ≠ 33 → c ≠ 34 → c < 39 → X c = I c := hI
  have e0 := q 0 (by decide) (by decide) (by decide) (by decide) (by decide)
  have e2 := q 2 (by decide) (by decide) (by decide) (by decide) (by decide)
  have e3 := q 3 (by decide) (by decide) (by decide) (by decide) (by decide)
  have e4 := q 4 (by decide) (by decide) (by decide) (by decide) (by decide)
  have e5 := q 5 (by decide) (by decide) (by decide) (by decide) (by decide)
  have e9 := q 9 (by decide) (by decide) (by decide) (by decide) (by decide)
  have e10 := q 10 (by decide) (by decide) (by decide) (by decide) (by decide)
  have e12 := q 12 (by decide) (by decide) (by decide) (by decide) (by decide)
  have e13 := q 13 (by decide) (by decide) (by decide) (by decide) (by decide)
  have e20 := q 20 (by decide) (by decide) (by decide) (by decide) (by decide)
  have e21 := q 21 (by decide) (by decide) (by decide) (by decide) (by decide)
  have e22 := q 22 (by decide) (by decide) (by decide) (by decide) (by decide)
  have e27 := q 27 (by decide) (by decide) (by decide) (by decide) (by decide)
  have e30 := q 30 (by decide) (by decide) (by decide) (by decide) (by decide)
  have e31 := q 31 (by decide) (by decide) (by decide) (by decide) (by decide)
  have e35 := q 35 (by decide) (by decide) (by decide) (by decide) (by decide)
  have e38 := q 38 (by decide) (by decide) (by decide) (by decide) (by decide)
  refine ⟨?_, ?_, ?_, ?_, ?_, ?_, ?_, ?_, ?_, hv, ?_, ?_, ?_, ?_, ?_, ?_, ?_, ?_, ?_, ?_⟩
  · rw [e0, e13]; exact raw.near
  · rw [e0, e13]; exact raw.lim
  · rw [e2, e20]; exact raw.fold
  · rw [e3, e13]; exact raw.clock
  · rw [e4, e5, e21, e22]; exact raw.things
  · intro i hi; rw [h8 i 0 (by decide) (by decide) (by decide)]; exact raw.num i hi
  · intro i hi; rw [h8 i 1 (by decide) (by decide) (by decide), e27]; exact raw.kind i hi
  · intro i hi; rw [h8 i 2 (by decide) (by decide) (by decide), e30]; exact raw.steps i hi
  · intro i hi; rw [h8 i 9 (by decide) (by decide) (by decide)]; exact raw.ends i hi
  · rw [e10, e35]; exact raw.parts
  · rw [e35]; exact raw.pre
  · rw [e27, e35]; exact raw.noparts
  · rw [e27, hJ 8 (by decide), hJ 29 (by decide)]; exact raw.words
  · rw [e27, e9, e31]; exact raw.sets
  · rw [e27]; exact hb
  · rw [e27]; exact hs
  · rw [hJ 11 (by decide), hJ 37 (by decide)]; exact raw.askw
  · rw [e12, e38]; exact raw.askv
  · rw [e35]; exact raw.rank
theorem k_Set.slot {nA nK : Nat} {E : Nat → Nat} {I X : k_I} {J Y : k_J} (h : k_Set nA nK E I J) (h8 : ∀ x k, k ≠ 8 → X 8 x k = I 8 x k) (hI : ∀ c, c ≠ 0 → c ≠ 8 → c ≠ 13 → c ≠ 34 → c < 39 → X c = I c) (hJ : ∀ c, c < 39 → Y c = J c) : k_Set nA nK E X Y := by
  have e2 := hI 2 (by decide) (by decide) (by decide) (by decide) (by decide)
  have e9 := hI 9 (by decide) (by decide) (by decide) (by decide) (by decide)
  have e22 := hI 22 (by decide) (by decide) (by decide) (by decide) (by decide)
  have e27 := hI 27 (by decide) (by decide) (by decide) (by decide) (by decide)
  have e31 := hI 31 (by decide) (by decide) (by decide) (by decide) (by decide)
  have e32 := hI 32 (by decide) (by decide) (by decide) (by decide) (by decide)
  have e33 := hI 33 (by decide) (by decide) (by decide) (by decide) (by decide)
  have e35 := hI 35 (by decide) (by decide) (by decide) (by decide) (by decide)
  have v1 : v_W E X Y = v_W E I J := by unfold v_W; rw [e35, e27, hJ 29 (by decide)]
  have v2 : v_S E X = v_S E I := by unfold v_S; rw [e35, e27, e31]
  have v3 : v_B E X = v_B E I := by unfold v_B; rw [e35, e27, e32]
  have v4 : v_D E X = v_D E I := by unfold v_D v_D1; rw [e35, e27, e32, e22, e33]
  obtain ⟨a1, a2, a3, a4, a5, a6, a7⟩ := h
  refine ⟨?_, ?_, ?_, ?_, ?_, ?_, ?_⟩
  · rw [v1, hJ 8 (by decide)]; exact a1
  · rw [v2, e9]; exact a2
  · rw [v3]; intro i hi; rw [h8 i 6 (by decide)]; exact a3 i hi
  · rw [v4]; intro i hi; rw [h8 i 11 (by decide)]; exact a4 i hi
  · rw [e35]; intro i hi; rw [h8 i 12 (by decide)]; exact a5 i hi
  · rw [e2, hJ 8 (by decide)]; exact a6
  · rw [e2, hJ 11 (by decide)]; exact a7
theorem RR.moved {nA nK : Nat} {E : Nat → Nat} {I : k_I} {J : k_J} (h : RR nA nK E I J) {i : Nat} (hi : i < nA) : kMoved I i = !decide (I 28 0 i < 0) := by
  have h24 := h.ms.2.2.1
  have hE := (h.ms.2.2.2.2.1 i hi).1
  unfold kMoved
  rw [h.raw.ends i hi, h.raw.num i hi]
  congr 1
  rw [decide_eq_decide, nI_eq (by omega) (by omega)]
  exact (h.ms.self hi).symm
theorem RR.kindV {nA nK : Nat} {E : Nat → Nat} {I : k_I} {J : k_J} (h : RR nA nK E I J) {i : Nat} (hi : i < nA) : kKind I i = if I 28 0 i < 0 then I 27 0 i else 2 := by
  unfold kKind
  rw [h.moved hi, (h.raw.kind i hi).1]
  by_cases c : I 28 0 i < 0
  · simp [c]
  · simp [c]
theorem RR.plain {nA nK : Nat} {E : Nat → Nat} {I : k_I} {J : k_J} (h : RR nA nK E I J) {i : Nat} (hi : i < nA) : kKind I i = 0 ↔ mPl I i = true := by
  rw [h.kindV hi]
  unfold mPl
  by_cases c : I 28 0 i < 0
  · simp [c]
  · simp [c]
theorem mPl_k {I : k_I} {i : Nat} (h : mPl I i = true) : I 27 0 i = 0 ∧ I 28 0 i < 0 := by
  unfold mPl at h
  simpa using h
theorem mPl_of {I I' : k_I} (h : I' 27 = I 27) (h2 : I' 28 = I 28) (i : Nat) : mPl I' i = mPl I i := by unfold mPl; rw [h, h2]
theorem k_St.same {α : Type} {nA nK : Nat} {E : Nat → Nat} {I : k_I} {J : k_J} (h : RR nA nK E I J) {cv mv : α} (e : cv = mv) : k_St RR nA nK E (I, J) cv mv nA nK (I, J) := ⟨h.ms, e, E, h⟩
theorem kSettle_mS {nA nK mA mK : Nat} {E : Nat → Nat} {K : k_I} {L : k_J} (h : m_S mA mK E K) : m_S mA mK E (kSettle nA nK (K, L)).1 := h.low (kSettle_hi (by decide)).1 (kSettle_hi (by decide)).1 (kSettle_hi (by decide)).1
theorem RR_fold {nA nK : Nat} {E : Nat → Nat} {I : k_I} {J : k_J} (w t : Int32) (h : RR nA nK E I J) : k_St RR nA nK E (cFold nA nK w t (I, J)).2 (cFold nA nK w t (I, J)).1 (mcFold w t (cFold nA nK w t (I, J)).2).1 nA nK (mcFold w t (cFold nA nK w t (I, J)).2).2 := by
  have em : ∀ s, mcFold w t s = if kWithin w 0 39 && kWithin t 0 39 then (s.1 20 0 w.toNatClampNeg, (mw 20 w.toNatClampNeg t s.1, s.2)) else (-1002, s) := fun s => by unfold mcFold; rw [mIn_39, mIn_39]
  rw [em]
  unfold cFold
  by_cases hw : (kWithin w 0 39 && kWithin t 0 39) = true
  · rw [if_pos hw, if_pos hw]
    rw [Bool.and_eq_true] at hw
    obtain ⟨n, hn, rfl⟩ := kW_n (b := 39) rfl hw.1
    obtain ⟨m, hm, rfl⟩ := kW_n (b := 39) rfl hw.2
    have e1 : kTurn I (nI n) (nI m) = k_up I 2 0 (upd (I 2 0) n (nI m)) := by
      unfold kTurn
      rw [if_neg (nI_pos (by omega)), if_neg (show ¬ (40 : Int32) ≤ nI n from nI_ge (a := n) (b := 40) (by omega) (by decide)), nI_clamp (by omega)]
    have e2 : kFoldOf I (nI n) = I 2 0 n := by
      unfold kFoldOf
      rw [if_neg (nI_pos (by omega)), if_neg (show ¬ (40 : Int32) ≤ nI n from nI_ge (a := n) (b := 40) (by omega) (by decide)), nI_clamp (by omega)]
    rw [nI_clamp (by omega)]
    show k_St RR nA nK E (kSettle nA nK (kTurn I (nI n) (nI m), J)) (kFoldOf I (nI n)) ((kSettle nA nK (kTurn I (nI n) (nI m), J)).1 20 0 n) nA nK (mw 20 n (nI m) (kSettle nA nK (kTurn I (nI n) (nI m), J)).1, (kSettle nA nK (kTurn I (nI n) (nI m), J)).2)
    rw [e1, e2]
    have hk : m_S nA nK E (k_up I 2 0 (upd (I 2 0) n (nI m))) := h.ms.up _ _ _ (by decide)
    have ep : ∀ c, c ≠ 2 → c ≠ 20 → mw 20 n (nI m) (k_up I 2 0 (upd (I 2 0) n (nI m))) c = I c := fun c h2 h20 => (mw_C h20).trans (k_up_C h2)
    generalize hX : mw 20 n (nI m) (k_up I 2 0 (upd (I 2 0) n (nI m))) = X at ep
    refine ⟨kSettle_mS hk, ?_, E, RR_late (X := X) (Y := J) (by rw [← hX]; exact fun c hc => mw_C (by omega)) (fun _ _ => rfl) (fun c hc => mw_C (by omega)) (fun c hc _ => by rw [← hX]; exact hi_mw (fun c hc => (kSettle_hi hc).1) (by decide) c hc) (fun _ _ => rfl) (fun c hc _ => (kSettle_hi hc).2) ?_ ?_ ?_ ?_ ?_ (by unfold g_Led; rw [ep 28 (by decide) (by decide)]; exact h.led)⟩
    · rw [(kSettle_hi (by decide)).1]
      exact (h.raw.fold n (by omega)).1
    · exact h.ks.of (ep 0 (by decide) (by decide)) (ep 6 (by decide) (by decide)) (ep 7 (by decide) (by decide))
    · exact h.ms.low (ep 13 (by decide) (by decide)) (ep 28 (by decide) (by decide)) (ep 35 (by decide) (by decide))
    · rw [ep 6 (by decide) (by decide)]; exact h.z6
    · rw [ep 7 (by decide) (by decide)]; exact h.z7
    · obtain ⟨a1, a2, a3, a4, a5, a6, a7, a8, a9, b1, b2, b3, b4, b5, b6, b7, b8, b9, c1, c2⟩ := h.raw
      have e0 := ep 0 (by decide) (by decide)
      have e8 := ep 8 (by decide) (by decide)
      have e13 := ep 13 (by decide) (by decide)
      have e27 := ep 27 (by decide) (by decide)
      have e35 := ep 35 (by decide) (by decide)
      refine ⟨?_, ?_, ?_, ?_, ?_, ?_, ?_, ?_, ?_, ?_, ?_, ?_, ?_, ?_, ?_, ?_, ?_, ?_, ?_, ?_⟩
      · rw [e0, e13]; exact a1
      · rw [e0, e13]; exact a2
      · intro w hw
        rw [← hX, mwx, mw_C (by decide), k_up_s, k_up_C (by decide)]
        by_cases hwn : w = n
        · subst hwn
          rw [upd_s, if_pos rfl]
          exact ⟨rfl, m, by omega, rfl⟩
        · rw [upd_n hwn, if_neg hwn]
          exact a3 w hw
      · rw [ep 3 (by decide) (by decide), e13]; exact a4
      · rw [ep 4 (by decide) (by decide), ep 5 (by decide) (by decide), ep 21 (by decide) (by decide), ep 22 (by decide) (by decide)]; exact a5
      · rw [e8]; exact a6
      · rw [e8, e27]; exact a7
      · rw [e8, ep 30 (by decide) (by decide)]; exact a8
      · rw [e8]; exact a9
      · rw [e8, ep 34 (by decide) (by decide)]; exact b1
      · rw [ep 10 (by decide) (by decide), e35]; exact b2
      · rw [e35]; exact b3
      · rw [e27, e35]; exact b4
      · rw [e27]; exact b5
      · rw [e27, ep 9 (by decide) (by decide), ep 31 (by decide) (by decide)]; exact b6
      · rw [e27, e8, ep 32 (by decide) (by decide)]; exact b7
      · rw [e27, e8, ep 33 (by decide) (by decide)]; exact b8
      · exact b9
      · rw [ep 12 (by decide) (by decide), ep 38 (by decide) (by decide)]; exact c1
      · rw [e35]; exact c2
  · rw [if_neg hw, if_neg hw]
    exact k_St.same h rfl
theorem RR.settle {nA nK : Nat} {E : Nat → Nat} {I : k_I} {J : k_J} (h : RR nA nK E I J) : RR nA nK E (kSettle nA nK (I, J)).1 (kSettle nA nK (I, J)).2 := RR_settle h.ks h.ms h.z6 h.z7 h.raw h.led
theorem RR_bind {nA nK : Nat} {E : Nat → Nat} {I : k_I} {J : k_J} (a t : Int32) (h : RR nA nK E I J) : k_St RR nA nK E (cBind nA nK a t (I, J)).2 (cBind nA nK a t (I, J)).1 (mcBind nA a t (cBind nA nK a t (I, J)).2).1 nA nK (mcBind nA a t (cBind nA nK a t (I, J)).2).2 := by
  unfold cBind mcBind
  rw [mIn_1023]
  cases ha : kAns nA a with
  | none => exact k_St.same h rfl
  | some i =>
    have hi := kAns_b ha
    simp only
    by_cases ht : kWithin t 0 1023 = true
    · simp only [if_pos ht]
      by_cases hp : kKind I i = 0
      · simp only [if_pos hp]
        have hpm := (h.plain hi).mp hp
        obtain ⟨hk0, -⟩ := mPl_k hpm
        have hK : m_S nA nK E (k_up I 8 i (upd (I 8 i) 6 t)) := h.ms.up _ _ _ (by decide)
        have ek : ∀ c, c ≠ 8 → k_up I 8 i (upd (I 8 i) 6 t) c = I c := fun c hc => k_up_C hc
        have e8 : ∀ x k, k ≠ 6 → k_up I 8 i (upd (I 8 i) 6 t) 8 x k = I 8 x k := fun x k hk => up8 hk
        have e6 : ∀ x, k_up I 8 i (upd (I 8 i) 6 t) 8 x 6 = if x = i then t else I 8 x 6 := fun x => up8s
        generalize k_up I 8 i (upd (I 8 i) 6 t) = K at hK ek e8 e6
        have hs1 : ∀ c, 13 ≤ c → (kSettle nA nK (K, J)).1 c = I c := fun c hc => (kSettle_hi hc).1.trans (ek c (by omega))
        rw [mPl_of (hs1 27 (by decide)) (hs1 28 (by decide)), if_pos hpm]
        refine ⟨kSettle_mS hK, ?_, E, RR_late (X := mw 32 i t K) (Y := J) (fun c hc => mw_C (by omega)) (fun _ _ => rfl) (fun c hc => mw_C (by omega)) (fun c hc _ => hi_mw (fun c hc => (kSettle_hi hc).1) (by decide) c hc) (fun _ _ => rfl) (fun c hc _ => (kSettle_hi hc).2) ?_ ?_ ?_ ?_ ?_ (by unfold g_Led; rw [mw_C (by decide), ek 28 (by decide)]; exact h.led)⟩
        · show I 8 i 6 = (kSettle nA nK (K, J)).1 32 0 i
          rw [hs1 32 (by decide)]
          exact h.raw.bound i hi hk0
        · exact h.ks.of ((mw_C (by decide)).trans (ek 0 (by decide))) ((mw_C (by decide)).trans (ek 6 (by decide))) ((mw_C (by decide)).trans (ek 7 (by decide)))
        · exact hK.low (mw_C (by decide)) (mw_C (by decide)) (mw_C (by decide))
        · rw [mw_C (by decide), ek 6 (by decide)]; exact h.z6
        · rw [mw_C (by decide), ek 7 (by decide)]; exact h.z7
        · refine h.raw.slot (fun x k h6 _ _ => by rw [mw_C (by decide)]; exact e8 x k h6) (fun c h8 h32 _ _ _ => (mw_C h32).trans (ek c h8)) (fun _ _ => rfl) (fun x hx => ?_) (fun x hx hx0 => ?_) (fun x hx hx0 => ?_)
          · rw [mw_C (by decide), mw_C (by decide), e8 x 8 (by decide), ek 34 (by decide)]; exact h.raw.votes x hx
          · rw [mw_C (by decide), e6, mwx, ek 32 (by decide)]
            split
            · rfl
            · exact h.raw.bound x hx hx0
          · rw [mw_C (by decide), mw_C (by decide), e8 x 7 (by decide), ek 33 (by decide)]; exact h.raw.sure x hx hx0
      · simp only [if_neg hp]
        have hpm : ¬ mPl I i = true := fun q => hp ((h.plain hi).mpr q)
        rw [if_neg hpm]
        exact k_St.same h rfl
    · simp only [if_neg ht]
      exact k_St.same h rfl
theorem RR_vote {nA nK : Nat} {E : Nat → Nat} {I : k_I} {J : k_J} (a : Int32) (up : Bool) (h : RR nA nK E I J) : k_St RR nA nK E (cVote nA a up (I, J)).2 (cVote nA a up (I, J)).1 (mcVote nA a up (cVote nA a up (I, J)).2).1 nA nK (mcVote nA a up (cVote nA a up (I, J)).2).2 := by
  unfold cVote mcVote
  cases ha : kAns nA a with
  | none => exact k_St.same h rfl
  | some i =>
    have hi := kAns_b ha
    simp only [h.moved hi]
    by_cases hm : I 28 0 i < 0
    · simp only [hm, decide_true, Bool.not_true, Bool.false_eq_true, if_false]
      generalize hx : (if up = true then (1 : Int32) else -1) = d
      have hv := h.raw.votes i hi
      have ek : ∀ c, c ≠ 8 → k_up I 8 i (upd (I 8 i) 8 (I 8 i 8 + d)) c = I c := fun c hc => k_up_C hc
      have e8 : ∀ x k, k ≠ 8 → k_up I 8 i (upd (I 8 i) 8 (I 8 i 8 + d)) 8 x k = I 8 x k := fun x k hk => up8 hk
      have e88 : ∀ x, k_up I 8 i (upd (I 8 i) 8 (I 8 i 8 + d)) 8 x 8 = if x = i then I 8 i 8 + d else I 8 x 8 := fun x => up8s
      generalize k_up I 8 i (upd (I 8 i) 8 (I 8 i 8 + d)) = K at ek e8 e88
      rw [ek 28 (by decide), if_pos hm, ek 34 (by decide)]
      have ex : ∀ c, c ≠ 8 → c ≠ 34 → mw 34 i (I 34 0 i + d) K c = I c := fun c h8 h34 => (mw_C h34).trans (ek c h8)
      refine ⟨h.ms.low (ek 13 (by decide)) (ek 28 (by decide)) (ek 35 (by decide)), by rw [hv], E, ⟨h.ks.of (ex 0 (by decide) (by decide)) (ex 6 (by decide) (by decide)) (ex 7 (by decide) (by decide)), h.ms.low (ex 13 (by decide) (by decide)) (ex 28 (by decide) (by decide)) (ex 35 (by decide) (by decide)), ?_, ?_, ?_, ?_, ?_⟩⟩
      · show ∀ j, nA ≤ j → mw 34 i (I 34 0 i + d) K 6 0 j = 0
        rw [ex 6 (by decide) (by decide)]; exact h.z6
      · show ∀ j, nK ≤ j → mw 34 i (I 34 0 i + d) K 7 0 j = 0
        rw [ex 7 (by decide) (by decide)]; exact h.z7
      · refine h.raw.slot (fun x k _ _ h8 => by show mw 34 i (I 34 0 i + d) K 8 x k = _; rw [mw_C (by decide)]; exact e8 x k h8) (fun c h8 _ _ h34 _ => ex c h8 h34) (fun _ _ => rfl) (fun x hx => ?_) (fun x hx hx0 => ?_) (fun x hx hx0 => ?_)
        · show mw 34 i (I 34 0 i + d) K 8 x 8 = mw 34 i (I 34 0 i + d) K 34 0 x
          rw [mw_C (by decide), e88, mwx, ek 34 (by decide), hv]
          split
          · rfl
          · exact h.raw.votes x hx
        · show mw 34 i (I 34 0 i + d) K 8 x 6 = mw 34 i (I 34 0 i + d) K 32 0 x
          rw [mw_C (by decide), mw_C (by decide), e8 x 6 (by decide), ek 32 (by decide)]; exact h.raw.bound x hx hx0
        · show mw 34 i (I 34 0 i + d) K 8 x 7 = mw 34 i (I 34 0 i + d) K 33 0 x
          rw [mw_C (by decide), mw_C (by decide), e8 x 7 (by decide), ek 33 (by decide)]; exact h.raw.sure x hx hx0
      · exact h.set.slot (fun x k h8 => by show mw 34 i (I 34 0 i + d) K 8 x k = _; rw [mw_C (by decide)]; exact e8 x k h8) (fun c _ h8 _ h34 _ => ex c h8 h34) (fun _ _ => rfl)
      · show g_Led nA (mw 34 i (I 34 0 i + d) K)
        unfold g_Led
        rw [ex 28 (by decide) (by decide)]; exact h.led
    · simp only [hm, decide_false, Bool.not_false, if_true, if_false]
      exact k_St.same h rfl
