/-! asked, count -/
theorem h_F.neg {nK : Nat} {V : Nat → Prop} {N : Nat → Nat → Prop} {f : Nat → Int32} (h30 : nK ≤ 30) (hV : ∀ q, V q → q < nK) (hf : h_F nK V N f) {q : Nat} (hq : q < nK) : f q < 0 ↔ ¬ V q := by
  constructor
  · intro h hv
    obtain ⟨l, e, hvl, -, -⟩ := hf.yes q hv
    have := hV l hvl
    rw [e] at h
    exact nI_pos (by omega) h
  · intro hv
    rw [hf.no q hq hv]; decide
theorem h_V.iff {nA nK : Nat} {I : k_I} {J : k_J} {q : Nat} (hq : q < nK) : ¬ h_V nA nK I J q ↔ kSome nA I J (J 11 q 2) q = true := by
  unfold h_V
  cases kSome nA I J (J 11 q 2) q
  · exact ⟨fun z => absurd ⟨hq, rfl⟩ z, fun z => by cases z⟩
  · exact ⟨fun _ => rfl, fun _ z => by cases z.2⟩
theorem RR_asked {nA nK : Nat} {E : Nat → Nat} {I : k_I} {J : k_J} (a w : Int32) (h : RR nA nK E I J) : k_St RR nA nK E (I, J) (cAsked nA nK I J a w) (mcAsked E nA nK a w (I, J)).1 nA nK (mcAsked E nA nK a w (I, J)).2 := by
  have h30 := h.ms.2.2.2.1
  obtain ⟨k, hf⟩ := mFH_F h
  unfold cAsked mcAsked
  rw [mIn_3]
  cases ha : kAns nK a with
  | none => exact k_St.same h rfl
  | some q =>
    have hq := kAns_b ha
    have ea := kAns_e (by omega) ha
    simp only
    by_cases hw : kWithin w 0 3 = true
    · simp only [if_pos hw]
      refine ⟨h.ms, ?_, E, h.of k.lo k.loJ⟩
      generalize mFH E nA nK (I, J) = F at k hf
      have hn := hf.neg h30 (fun q z => z.1) hq
      have hs : F.1 44 0 q < 0 ↔ kSome nA I J (J 11 q 2) q = true := hn.trans (h_V.iff hq)
      obtain ⟨n, hn2, rfl⟩ := kW_n (b := 3) rfl hw
      rcases (show n = 0 ∨ n = 1 ∨ n = 2 ∨ n = 3 by omega) with rfl | rfl | rfl | rfl
      · unfold mAskV
        rw [if_pos (show nI 0 = 0 from rfl), if_pos (show nI 0 = 0 from rfl)]
        by_cases c : kSome nA I J (J 11 q 2) q = true
        · rw [if_pos c, if_pos (hs.mpr c)]
        · rw [if_neg c, if_neg (fun z => c (hs.mp z))]
      · unfold mAskV
        have d0 : ¬ nI 1 = 0 := by decide
        rw [if_neg d0, if_neg d0, if_pos (show nI 1 = 1 from rfl), if_pos (show nI 1 = 1 from rfl), ea]
        exact kHeapOf_m h.hc hf hq
      · unfold mAskV
        have d0 : ¬ nI 2 = 0 := by decide
        have d1 : ¬ nI 2 = 1 := by decide
        rw [if_neg d0, if_neg d0, if_neg d1, if_neg d1, if_pos (show nI 2 = 2 from rfl), if_pos (show nI 2 = 2 from rfl)]
        by_cases c : kSome nA I J (J 11 q 2) q = true
        · rw [if_pos c, if_pos (hs.mpr c)]
        · rw [if_neg c, if_neg (fun z => c (hs.mp z)), kHelp_m h k hq]
      · unfold mAskV
        have d0 : ¬ nI 3 = 0 := by decide
        have d1 : ¬ nI 3 = 1 := by decide
        have d2 : ¬ nI 3 = 2 := by decide
        rw [if_neg d0, if_neg d0, if_neg d1, if_neg d1, if_neg d2, if_neg d2, if_pos (show nI 3 = 3 from rfl), kFoundN_m h k hq, k.loJ 37 (by decide)]
    · simp only [if_neg hw]
      refine k_St.same h ?_
      have q : ∀ v : Int32, kWithin v 0 3 = true → ¬ w = v := fun v hv e => hw (e ▸ hv)
      rw [if_neg (q 0 rfl), if_neg (q 1 rfl), if_neg (q 2 rfl), if_neg (q 3 rfl)]
theorem kLoop_id {α : Type} {f : Nat → α → α} (h : ∀ i a, f i a = a) : ∀ (d i : Nat) (a : α), kLoop f d i a = a
  | 0, _, _ => rfl
  | d + 1, i, a => by
    rw [kLoop_s, h i a]
    exact kLoop_id h d (i + 1) a
theorem mCnB_n {I : k_I} {J : k_J} {w : Int32} (hw : ¬ w = 5) (a : Nat) : ∀ d b n, mCnB I J w a d b n = n
  | 0, _, _ => rfl
  | d + 1, b, n => by
    unfold mCnB
    rw [if_neg hw]
theorem mCnA_n {nA : Nat} {I : k_I} {J : k_J} {w : Int32} (hw : ¬ w = 5) : mCnA nA I J w = kLoop (fun a n => n + mCounted I a w) nA 0 (0 : Int32) := by
  unfold mCnA
  refine kLoop_cg nA 0 _ fun a n _ _ => ?_
  unfold mCn1
  exact mCnB_n hw a _ _ _
theorem mCnq_n {I : k_I} {w : Int32} (h7 : ¬ w = 7) (h8 : ¬ w = 8) (q : Nat) (n : Int32) : mCnq I w q n = n := by
  unfold mCnq
  rw [if_neg h7, if_neg h8, Int32.add_zero]
theorem kCnt {nA : Nat} {p : Nat → Bool} {g : Nat → Int32} (h : ∀ a, a < nA → g a = if p a = true then 1 else 0) : kLoop (fun a n => if p a = true then n + 1 else n) nA 0 (0 : Int32) = kLoop (fun a n => n + g a) nA 0 0 := by
  refine kLoop_cg nA 0 _ fun a n _ ha => ?_
  rw [h a (by omega)]
  split
  · rfl
  · rw [Int32.add_zero]
theorem kKindN_m {nA nK : Nat} {E : Nat → Nat} {I : k_I} {J : k_J} {F : k_IJ} (h : RR nA nK E I J) (k : k_Wk2 nA I J F) {w v : Int32} (hw : ¬ w = 5) (h7 : ¬ w = 7) (h8 : ¬ w = 8) (hv : ∀ a, a < nA → mCounted F.1 a w = if kKind I a = v then 1 else 0) : kKindN nA I v = kLoop (mCnq F.1 w) nK 0 (mCnA nA F.1 F.2 w) := by
  rw [kLoop_id (fun q n => mCnq_n h7 h8 q n), mCnA_n hw]
  unfold kKindN
  refine kLoop_cg nA 0 _ fun a n _ ha => ?_
  rw [hv a (by omega)]
  split
  · rfl
  · rw [Int32.add_zero]
theorem mCnB_5 {nA nK : Nat} {E : Nat → Nat} {I : k_I} {J : k_J} {F : k_IJ} (h : RR nA nK E I J) (k : k_Wk2 nA I J F) {a : Nat} (ha : a < nA) : ∀ d b (n : Int32), b + d = nA → kLoop (fun b n => if kQuar I J a b then n + 1 else n) d b n = mCnB F.1 F.2 5 a d b n
  | 0, _, _, _ => rfl
  | d + 1, b, n, hd => by
    rw [kLoop_s]
    unfold mCnB
    rw [if_pos rfl, mQuar_of k.lo (k.loJ 29 (by decide)), kQuar_m h ha (by omega)]
    by_cases c : mQuar I J a b = true
    · rw [if_pos c, if_pos c]
      exact mCnB_5 h k ha d (b + 1) (n + 1) (by omega)
    · rw [if_neg c, if_neg c, Int32.add_zero]
      exact mCnB_5 h k ha d (b + 1) n (by omega)
theorem g_ct_cut {p : Nat → Bool} {n : Nat} : ∀ {m : Nat}, (∀ i, n ≤ i → i < m → p i = false) → n ≤ m → g_ct p m = g_ct p n
  | 0, _, h => by rw [show n = 0 by omega]
  | m + 1, h, hm => by
    rcases Nat.lt_or_ge m n with q | q
    · rw [show m + 1 = n by omega]
    · rw [g_ct_s, h m q (by omega), g_ct_cut (fun i h1 h2 => h i h1 (by omega)) q]; rfl
theorem cCount_m {nA nK : Nat} {E : Nat → Nat} {I : k_I} {J : k_J} {F : k_IJ} (h : RR nA nK E I J) (k : k_Wk2 nA I J F) (hf : h_F nK (h_V nA nK I J) (h_N I J) (F.1 44 0)) {w : Int32} (hw : kWithin w 0 8 = true) : cCount nA nK I J w = mCnV nA nK F.1 F.2 w := by
  have h30 := h.ms.2.2.2.1
  have f27 : F.1 27 = I 27 := k.lo 27 (by decide)
  have f28 : F.1 28 = I 28 := k.lo 28 (by decide)
  obtain ⟨n, hn2, rfl⟩ := kW_n (b := 8) rfl hw
  rcases (show n = 0 ∨ n = 1 ∨ n = 2 ∨ n = 3 ∨ n = 4 ∨ n = 5 ∨ n = 6 ∨ n = 7 ∨ n = 8 by omega) with rfl | rfl | rfl | rfl | rfl | rfl | rfl | rfl | rfl
  · rfl
  · show kKindN nA I 0 = kLoop (mCnq F.1 1) nK 0 (mCnA nA F.1 F.2 1)
    refine kKindN_m h k (by decide) (by decide) (by decide) fun a ha => ?_
    show (if F.1 28 0 a < 0 then (if F.1 27 0 a = 0 then (1 : Int32) else 0) else 0) = _
    rw [f27, f28, h.kindV ha]
    by_cases c : I 28 0 a < 0
    · rw [if_pos c, if_pos c]
    · rw [if_neg c, if_neg c, if_neg (by decide)]
  · show kKindN nA I 1 = kLoop (mCnq F.1 2) nK 0 (mCnA nA F.1 F.2 2)
    refine kKindN_m h k (by decide) (by decide) (by decide) fun a ha => ?_
    show (if F.1 28 0 a < 0 then (if F.1 27 0 a = 1 then (1 : Int32) else 0) else 0) = _
    rw [f27, f28, h.kindV ha]
    by_cases c : I 28 0 a < 0
    · rw [if_pos c, if_pos c]
    · rw [if_neg c, if_neg c, if_neg (by decide)]
  · show kKindN nA I 2 = kLoop (mCnq F.1 3) nK 0 (mCnA nA F.1 F.2 3)
    refine kKindN_m h k (by decide) (by decide) (by decide) fun a ha => ?_
    show (if F.1 28 0 a < 0 then (0 : Int32) else 1) = _
    rw [f28, h.kindV ha]
    by_cases c : I 28 0 a < 0
    · rw [if_pos c, if_pos c]
      rcases (h.raw.kind a ha).2 with e | e
      · rw [e, if_neg (by decide)]
      · rw [e, if_neg (by decide)]
    · rw [if_neg c, if_neg c, if_pos rfl]
  · show kDoubtN nA I = kLoop (mCnq F.1 4) nK 0 (mCnA nA F.1 F.2 4)
    rw [kLoop_id (fun q n => mCnq_n (by decide) (by decide) q n), mCnA_n (by decide)]
    refine kCnt fun a ha => ?_
    show (if F.1 28 0 a < 0 then (if F.1 43 0 a = 0 then (0 : Int32) else 1) else 0) = _
    rw [← kDoubt_m h ha f28 (k.fd a ha)]
    rfl
  · show kQuarN nA I J = kLoop (mCnq F.1 5) nK 0 (mCnA nA F.1 F.2 5)
    rw [kLoop_id (fun q n => mCnq_n (by decide) (by decide) q n)]
    unfold kQuarN mCnA
    refine kLoop_cg nA 0 _ fun a n _ ha => ?_
    unfold kQuarRow mCn1
    have e : n + mCounted F.1 a 5 = n := Int32.add_zero n
    rw [e]
    exact mCnB_5 h k (by omega) (nA - (a + 1)) (a + 1) n (by omega)
  · rfl
  · show kBC32 (kVain nA nK I J) = kLoop (mCnq F.1 7) nK 0 (mCnA nA F.1 F.2 7)
    have e0 : mCnA nA F.1 F.2 7 = 0 := by
      rw [mCnA_n (by decide)]
      exact kLoop_id (fun a n => Int32.add_zero n) nA 0 0
    rw [e0, kBC32_v, g_ct_cut (n := nK) (fun i hi h32 => by
      cases hb : bt (kVain nA nK I J) i
      · rfl
      · have := ((kVain_v h30 h32).mp hb).1
        omega) (by omega), ← kCt_m]
    refine kLoop_cg nK 0 _ fun q n _ hq => ?_
    have hq2 : q < nK := by omega
    have hn := hf.neg h30 (fun q z => z.1) hq2
    show n + (if bt (kVain nA nK I J) q = true then 1 else 0) = n + (if F.1 44 0 q < 0 then 0 else 1)
    have hv := kVain_v (nA := nA) (I := I) (J := J) h30 (y := q) (by omega)
    by_cases c : h_V nA nK I J q
    · rw [if_pos (hv.mpr c), if_neg (fun z => hn.mp z c)]
    · rw [if_neg (fun z => c (hv.mp z)), if_pos (hn.mpr c)]
  · show (kHeapN nK I J (kVain nA nK I J)).2 = kLoop (mCnq F.1 8) nK 0 (mCnA nA F.1 F.2 8)
    have e0 : mCnA nA F.1 F.2 8 = 0 := by
      rw [mCnA_n (by decide)]
      exact kLoop_id (fun a n => Int32.add_zero n) nA 0 0
    rw [e0, kHeapN_v h.hc hf, ← kCt_m]
    refine kLoop_cg nK 0 _ fun q n _ hq => ?_
    show n + (if h_rb (F.1 44 0) q = true then 1 else 0) = n + (if F.1 44 0 q = nI q then 1 else 0)
    unfold h_rb
    simp only [decide_eq_true_eq]
theorem RR_count {nA nK : Nat} {E : Nat → Nat} {I : k_I} {J : k_J} (a : Int32) (h : RR nA nK E I J) : k_St RR nA nK E (I, J) (cCount nA nK I J a) (mcCount E nA nK a (I, J)).1 nA nK (mcCount E nA nK a (I, J)).2 := by
  obtain ⟨k, hf⟩ := mFH_F h
  unfold mcCount
  rw [mIn_8]
  by_cases hw : kWithin a 0 8 = true
  · rw [if_pos hw]
    exact ⟨h.ms, cCount_m h k hf hw, E, h.of k.lo k.loJ⟩
  · rw [if_neg hw]
    refine k_St.same h ?_
    have q : ∀ v : Int32, kWithin v 0 8 = true → ¬ a = v := fun v hv e => hw (e ▸ hv)
    unfold cCount
    rw [if_neg (q 0 rfl), if_neg (q 1 rfl), if_neg (q 2 rfl), if_neg (q 3 rfl), if_neg (q 4 rfl), if_neg (q 5 rfl), if_neg (q 6 rfl), if_neg (q 7 rfl), if_neg (q 8 rfl)]
