theorem lw_bound {L i : Nat} (hL : L ≤ 3584) (hi : i ≤ 3591) : (nI L - 7 < nI i) ↔ L < i + 7 := by
  rw [Int32.lt_iff_toInt_lt, nI_toInt (by omega), Int32.toInt_sub, nI_toInt (by omega)]
  have h7 : (7 : Int32).toInt = 7 := rfl
  rw [h7, Int.bmod_eq_of_le (by omega) (by omega)]
  omega
set_option maxHeartbeats 4000000 in
set_option maxRecDepth 100000 in
theorem lw_loop {RR : Nat → Nat → (Nat → Nat) → k_I → k_J → Prop} (R : k_Rel RR) {p : Program} {l : Launch} {e : Env} {s : State} {m : MethodId} {below : List Frame} {meth : Method} {c : Code} {b L : Nat} {xs : Nat → Int32} {G : k_G} (X : k_X p m c cL_law 4 s #[Value.ref b] "AnswerKeeperLaw" G) (hX : va_X b L xs s s.heap) (hbl : b < s.heap.size) (hG : G.2.2.1 = s.heap.size) (hL : L ≤ 3584) (hr : meth.sig.returnType = ret) (hlocks : meth.locks = false) : ∀ (d i cells slots : Nat), i ≤ 3591 → L < i + 7 * d → cells + 3 * d ≤ 600000 → slots + 20 * d ≤ 7302250 → lw_C RR p l e s m below meth c b G i cells slots (lw_Z below #[Value.ref b] s) 18 := by
  have hx := X.1.1
  have hb := X.1.2.1
  intro d
  induction d with
  | zero =>
    intro i cells slots hi hd hc hs ad nA nK E I J H locs ls hR hW hS hl
    refine lv_iload_n hx hb dL_law_18 rfl (lv_at hl 0 rfl) ?_
    refine lv_aload_n hx hb dL_law_19 rfl (lv_at hl 3 rfl) ?_
    refine va_slen hx hb hX hbl (show ¬ k_A G b by unfold k_A; rw [hG]; exact Nat.not_le.mpr hbl) hS dL_law_20 ?_
    refine lv_bipush (v := 7) hx hb dL_law_21 (by decide) ?_
    refine lv_isub hx hb dL_law_23 ?_
    refine lv_icmp_gt (tgt := 896) hx hb dL_law_24 (by decide) (fun _ => ?_) (fun c_ => absurd ((lw_bound hL hi).mpr (by omega)) c_)
    refine lv_iconst (v := 1) hx hb dL_law_896 (by decide) ?_
    refine va_forget (fun q hq => by have := hS.2.2 q hq; unfold k_A at this; rw [hG] at this; exact this) ?_
    refine W.widen (k := 600000) (n := 7302250) (by omega) (by omega) ?_
    exact lw_ret hx hb hr hlocks dL_law_897
  | succ d ih =>
    intro i cells slots hi hd hc hs ad nA nK E I J H locs ls hR hW hS hl
    refine lv_iload_n hx hb dL_law_18 rfl (lv_at hl 0 rfl) ?_
    refine lv_aload_n hx hb dL_law_19 rfl (lv_at hl 3 rfl) ?_
    refine va_slen hx hb hX hbl (show ¬ k_A G b by unfold k_A; rw [hG]; exact Nat.not_le.mpr hbl) hS dL_law_20 ?_
    refine lv_bipush (v := 7) hx hb dL_law_21 (by decide) ?_
    refine lv_isub hx hb dL_law_23 ?_
    refine lv_icmp_gt (tgt := 896) hx hb dL_law_24 (by decide) (fun _ => ?_) (fun c_ => ?_)
    · refine lv_iconst (v := 1) hx hb dL_law_896 (by decide) ?_
      refine va_forget (fun q hq => by have := hS.2.2 q hq; unfold k_A at this; rw [hG] at this; exact this) ?_
      refine W.widen (k := 600000) (n := 7302250) (by omega) (by omega) ?_
      exact lw_ret hx hb hr hlocks dL_law_897
    have hi7 : i + 6 < L := by
      have h9 : ¬ L < i + 7 := fun h => c_ ((lw_bound hL hi).mpr h)
      omega
    clear c_
    have kk : lw_C RR p l e s m below meth c b G i (cells + 3) (slots + 20) (lw_Z below #[Value.ref b] s) 890 := by
      intro ad nA nK E I J H locs ls hR hW hS hl
      refine lv_iinc (v := nI (i + 7)) (lv' := [(3, .int (nI (i + 7))), (2, .ref (ad 13 0)), (1, .ref (ad 0 0)), (0, .ref b)]) hx hb dL_law_890 hl (k := 0) rfl (nI_add i 7) (by decide) rfl (fun ls hl => ?_)
      refine lv_goto (tgt := 18) hx hb dL_law_893 (by decide) ?_
      exact ih (i + 7) (cells + 3) (slots + 20) (by omega) (by omega) (by omega) (by omega) ad nA nK E I J H locs ls hR hW hS hl
    refine lv_aload_n hx hb dL_law_27 rfl (lv_at hl 3 rfl) ?_
    refine lv_iload_n hx hb dL_law_28 rfl (lv_at hl 0 rfl) ?_
    refine lw_sld X hX hbl hG hS hL (i := i) (by omega) dL_law_29 ?_
    refine lv_bipush (v := 31) hx hb dL_law_30 (by decide) ?_
    refine lv_iand hx hb dL_law_32 ?_
    refine lv_topi (fun v ev => ?_)
    rcases k_sw0_18 v with c_ | c_ | c_ | c_ | c_ | c_ | c_ | c_ | c_ | c_ | c_ | c_ | c_ | c_ | c_ | c_ | c_ | c_ | c_ | c_
    · refine lv_tableIn (off := 91) (tgt := 124) hx hb dL_law_33 (by rw [c_]; decide) (by rw [c_]; decide) (by rw [c_]; rfl) (by decide) ?_
      exact lw_op0 R X hX hbl hG hL hi7 (by omega) (by omega) kk ad nA nK E I J H locs ls hR hW hS hl
    · refine lv_tableIn (off := 124) (tgt := 157) hx hb dL_law_33 (by rw [c_]; decide) (by rw [c_]; decide) (by rw [c_]; rfl) (by decide) ?_
      exact lw_op1 R X hX hbl hG hL hi7 (by omega) (by omega) kk ad nA nK E I J H locs ls hR hW hS hl
    · refine lv_tableIn (off := 147) (tgt := 180) hx hb dL_law_33 (by rw [c_]; decide) (by rw [c_]; decide) (by rw [c_]; rfl) (by decide) ?_
      exact lw_op2 R X hX hbl hG hL hi7 (by omega) (by omega) kk ad nA nK E I J H locs ls hR hW hS hl
    · refine lv_tableIn (off := 180) (tgt := 213) hx hb dL_law_33 (by rw [c_]; decide) (by rw [c_]; decide) (by rw [c_]; rfl) (by decide) ?_
      exact lw_op3 R X hX hbl hG hL hi7 (by omega) (by omega) kk ad nA nK E I J H locs ls hR hW hS hl
    · refine lv_tableIn (off := 275) (tgt := 308) hx hb dL_law_33 (by rw [c_]; decide) (by rw [c_]; decide) (by rw [c_]; rfl) (by decide) ?_
      exact lw_op4 R X hX hbl hG hL hi7 (by omega) (by omega) kk ad nA nK E I J H locs ls hR hW hS hl
    · refine lv_tableIn (off := 328) (tgt := 361) hx hb dL_law_33 (by rw [c_]; decide) (by rw [c_]; decide) (by rw [c_]; rfl) (by decide) ?_
      exact lw_op5 R X hX hbl hG hL hi7 (by omega) (by omega) kk ad nA nK E I J H locs ls hR hW hS hl
    · refine lv_tableIn (off := 361) (tgt := 394) hx hb dL_law_33 (by rw [c_]; decide) (by rw [c_]; decide) (by rw [c_]; rfl) (by decide) ?_
      exact lw_op6 R X hX hbl hG hL hi7 (by omega) (by omega) kk ad nA nK E I J H locs ls hR hW hS hl
    · refine lv_tableIn (off := 384) (tgt := 417) hx hb dL_law_33 (by rw [c_]; decide) (by rw [c_]; decide) (by rw [c_]; rfl) (by decide) ?_
      exact lw_op7 R X hX hbl hG hL hi7 (by omega) (by omega) kk ad nA nK E I J H locs ls hR hW hS hl
    · refine lv_tableIn (off := 417) (tgt := 450) hx hb dL_law_33 (by rw [c_]; decide) (by rw [c_]; decide) (by rw [c_]; rfl) (by decide) ?_
      exact lw_op8 R X hX hbl hG hL hi7 (by omega) (by omega) kk ad nA nK E I J H locs ls hR hW hS hl
    · refine lv_tableIn (off := 450) (tgt := 483) hx hb dL_law_33 (by rw [c_]; decide) (by rw [c_]; decide) (by rw [c_]; rfl) (by decide) ?_
      exact lw_op9 R X hX hbl hG hL hi7 (by omega) (by omega) kk ad nA nK E I J H locs ls hR hW hS hl
    · refine lv_tableIn (off := 499) (tgt := 532) hx hb dL_law_33 (by rw [c_]; decide) (by rw [c_]; decide) (by rw [c_]; rfl) (by decide) ?_
      exact lw_op10 R X hX hbl hG hL hi7 (by omega) (by omega) kk ad nA nK E I J H locs ls hR hW hS hl
    · refine lv_tableIn (off := 532) (tgt := 565) hx hb dL_law_33 (by rw [c_]; decide) (by rw [c_]; decide) (by rw [c_]; rfl) (by decide) ?_
      exact lw_op11 R X hX hbl hG hL hi7 (by omega) (by omega) kk ad nA nK E I J H locs ls hR hW hS hl
    · refine lv_tableIn (off := 556) (tgt := 589) hx hb dL_law_33 (by rw [c_]; decide) (by rw [c_]; decide) (by rw [c_]; rfl) (by decide) ?_
      exact lw_op12 R X hX hbl hG hL hi7 (by omega) (by omega) kk ad nA nK E I J H locs ls hR hW hS hl
    · refine lv_tableIn (off := 609) (tgt := 642) hx hb dL_law_33 (by rw [c_]; decide) (by rw [c_]; decide) (by rw [c_]; rfl) (by decide) ?_
      exact lw_op13 R X hX hbl hG hL hi7 (by omega) (by omega) kk ad nA nK E I J H locs ls hR hW hS hl
    · refine lv_tableIn (off := 632) (tgt := 665) hx hb dL_law_33 (by rw [c_]; decide) (by rw [c_]; decide) (by rw [c_]; rfl) (by decide) ?_
      exact lw_op14 R X hX hbl hG hL hi7 (by omega) (by omega) kk ad nA nK E I J H locs ls hR hW hS hl
    · refine lv_tableIn (off := 665) (tgt := 698) hx hb dL_law_33 (by rw [c_]; decide) (by rw [c_]; decide) (by rw [c_]; rfl) (by decide) ?_
      exact lw_op15 R X hX hbl hG hL hi7 (by omega) (by omega) kk ad nA nK E I J H locs ls hR hW hS hl
    · refine lv_tableIn (off := 748) (tgt := 781) hx hb dL_law_33 (by rw [c_]; decide) (by rw [c_]; decide) (by rw [c_]; rfl) (by decide) ?_
      exact lw_op16 R X hX hbl hG hL hi7 (by omega) (by omega) kk ad nA nK E I J H locs ls hR hW hS hl
    · refine lv_tableIn (off := 791) (tgt := 824) hx hb dL_law_33 (by rw [c_]; decide) (by rw [c_]; decide) (by rw [c_]; rfl) (by decide) ?_
      exact lw_op17 R X hX hbl hG hL hi7 (by omega) (by omega) kk ad nA nK E I J H locs ls hR hW hS hl
    · refine lv_tableIn (off := 824) (tgt := 857) hx hb dL_law_33 (by rw [c_]; decide) (by rw [c_]; decide) (by rw [c_]; rfl) (by decide) ?_
      exact lw_op18 R X hX hbl hG hL hi7 (by omega) (by omega) kk ad nA nK E I J H locs ls hR hW hS hl
    · refine lv_tableOut (tgt := 890) hx hb dL_law_33 c_ (by decide) ?_
      refine W.widen (k := cells + 3) (n := slots + 20) (by omega) (by omega) ?_
      exact kk ad nA nK E I J H locs ls hR hW hS hl
/-! the world at the law's loop -/
def lw_I0 : k_I := fun c _ => match c with
  | 0 => fun k => if k = 6 then 2 else if k = 7 then 20 else 0
  | 2 => k_fil nI 40
  | 13 => fun k => if k = 4 then 2 else if k = 5 then 20 else 0
  | 20 => k_fil nI 40
  | _ => fun _ => 0
def lw_J0 : k_J := fun _ _ _ => 0
theorem lw_W0 {G : k_G} {H : Heap} {k0 a0 a1 a2 a3 a4 a5 a6 g0 b0 b1 b2 b3 b4 b5 b6 b7 b8 b9 b10 b11 b12 b13 b14 b15 b16 b17 b18 b19 : Nat} (hP : va_P G.1 vwCl [(k0, .inr (4, [.ref a0, .ref a2, .ref a5, .ref a6, .int 0, .int 0, .int 2, .int 20])), (a0, .inr (2, [.ref a1])), (a1, k_ar 40 (G.2.1 0) (k_fil (nI) 40)), (a2, .inr (3, [.ref a3, .ref a4, .int 0])), (a3, k_ar 10 (G.2.1 0) (fun _ => 0)), (a4, k_ar 10 (G.2.1 0) (fun _ => 0)), (a5, .inl (G.2.1 3, 24, .inr (.inr (.inr (.inr (fun _ => none)))))), (a6, .inl (G.2.1 4, 30, .inr (.inr (.inr (.inr (fun _ => none)))))), (g0, .inr (5, [.ref b0, .ref b1, .ref b2, .int 0, .int 2, .int 20, .int 0, .ref b3, .ref b4, .ref b5, .ref b6, .ref b7, .ref b8, .ref b9, .ref b10, .ref b11, .int 0, .ref b12, .ref b13, .ref b14, .ref b15, .ref b16, .ref b17, .ref b18, .ref b19])), (b0, k_ar 40 (G.2.1 0) (k_fil (nI) 40)), (b1, k_ar 10 (G.2.1 0) (fun _ => 0)), (b2, k_ar 10 (G.2.1 0) (fun _ => 0)), (b3, k_ar 24 (G.2.1 0) (fun _ => 0)), (b4, k_ar 24 (G.2.1 0) (fun _ => 0)), (b5, k_al 24 (G.2.1 1) (fun _ => 0)), (b6, k_ar 24 (G.2.1 0) (fun _ => 0)), (b7, k_ar 72 (G.2.1 0) (fun _ => 0)), (b8, k_ar 24 (G.2.1 0) (fun _ => 0)), (b9, k_ar 24 (G.2.1 0) (fun _ => 0)), (b10, k_ar 24 (G.2.1 0) (fun _ => 0)), (b11, k_ar 96 (G.2.1 0) (fun _ => 0)), (b12, k_al 30 (G.2.1 1) (fun _ => 0)), (b13, k_ar 90 (G.2.1 0) (fun _ => 0)), (b14, k_ar 24 (G.2.1 2) (fun _ => 0)), (b15, k_al 24 (G.2.1 1) (fun _ => 0)), (b16, k_ar 72 (G.2.1 0) (fun _ => 0)), (b17, k_ar 24 (G.2.1 0) (fun _ => 0)), (b18, k_ar 24 (G.2.1 2) (fun _ => 0)), (b19, k_ar 30 (G.2.1 0) (fun _ => 0))] H) (hD : va_D (k_A G) [(k0, .inr (4, [.ref a0, .ref a2, .ref a5, .ref a6, .int 0, .int 0, .int 2, .int 20])), (a0, .inr (2, [.ref a1])), (a1, k_ar 40 (G.2.1 0) (k_fil (nI) 40)), (a2, .inr (3, [.ref a3, .ref a4, .int 0])), (a3, k_ar 10 (G.2.1 0) (fun _ => 0)), (a4, k_ar 10 (G.2.1 0) (fun _ => 0)), (a5, .inl (G.2.1 3, 24, .inr (.inr (.inr (.inr (fun _ => none)))))), (a6, .inl (G.2.1 4, 30, .inr (.inr (.inr (.inr (fun _ => none)))))), (g0, .inr (5, [.ref b0, .ref b1, .ref b2, .int 0, .int 2, .int 20, .int 0, .ref b3, .ref b4, .ref b5, .ref b6, .ref b7, .ref b8, .ref b9, .ref b10, .ref b11, .int 0, .ref b12, .ref b13, .ref b14, .ref b15, .ref b16, .ref b17, .ref b18, .ref b19])), (b0, k_ar 40 (G.2.1 0) (k_fil (nI) 40)), (b1, k_ar 10 (G.2.1 0) (fun _ => 0)), (b2, k_ar 10 (G.2.1 0) (fun _ => 0)), (b3, k_ar 24 (G.2.1 0) (fun _ => 0)), (b4, k_ar 24 (G.2.1 0) (fun _ => 0)), (b5, k_al 24 (G.2.1 1) (fun _ => 0)), (b6, k_ar 24 (G.2.1 0) (fun _ => 0)), (b7, k_ar 72 (G.2.1 0) (fun _ => 0)), (b8, k_ar 24 (G.2.1 0) (fun _ => 0)), (b9, k_ar 24 (G.2.1 0) (fun _ => 0)), (b10, k_ar 24 (G.2.1 0) (fun _ => 0)), (b11, k_ar 96 (G.2.1 0) (fun _ => 0)), (b12, k_al 30 (G.2.1 1) (fun _ => 0)), (b13, k_ar 90 (G.2.1 0) (fun _ => 0)), (b14, k_ar 24 (G.2.1 2) (fun _ => 0)), (b15, k_al 24 (G.2.1 1) (fun _ => 0)), (b16, k_ar 72 (G.2.1 0) (fun _ => 0)), (b17, k_ar 24 (G.2.1 0) (fun _ => 0)), (b18, k_ar 24 (G.2.1 2) (fun _ => 0)), (b19, k_ar 30 (G.2.1 0) (fun _ => 0))]) : ∃ ad : Nat → Nat → Nat, ad 0 0 = k0 ∧ ad 13 0 = g0 ∧ Wd G ad 0 0 lw_I0 lw_J0 H := by
  refine ⟨fun c _ => match c with | 0 => k0 | 1 => a0 | 2 => a1 | 3 => a2 | 4 => a3 | 5 => a4 | 6 => a5 | 7 => a6 | 13 => g0 | 20 => b0 | 21 => b1 | 22 => b2 | 27 => b3 | 28 => b4 | 29 => b5 | 30 => b6 | 31 => b7 | 32 => b8 | 33 => b9 | 34 => b10 | 35 => b11 | 37 => b12 | 38 => b13 | 39 => b14 | 40 => b15 | 41 => b16 | 42 => b17 | 43 => b18 | 44 => b19 | _ => 0, rfl, rfl, ?_⟩
  have key : ∀ c i, i < k_n 0 0 c → ∃ k : Nat, [(k0, .inr (4, [.ref a0, .ref a2, .ref a5, .ref a6, .int 0, .int 0, .int 2, .int 20])), (a0, .inr (2, [.ref a1])), (a1, k_ar 40 (G.2.1 0) (k_fil (nI) 40)), (a2, .inr (3, [.ref a3, .ref a4, .int 0])), (a3, k_ar 10 (G.2.1 0) (fun _ => 0)), (a4, k_ar 10 (G.2.1 0) (fun _ => 0)), (a5, .inl (G.2.1 3, 24, .inr (.inr (.inr (.inr (fun _ => none)))))), (a6, .inl (G.2.1 4, 30, .inr (.inr (.inr (.inr (fun _ => none)))))), (g0, .inr (5, [.ref b0, .ref b1, .ref b2, .int 0, .int 2, .int 20, .int 0, .ref b3, .ref b4, .ref b5, .ref b6, .ref b7, .ref b8, .ref b9, .ref b10, .ref b11, .int 0, .ref b12, .ref b13, .ref b14, .ref b15, .ref b16, .ref b17, .ref b18, .ref b19])), (b0, k_ar 40 (G.2.1 0) (k_fil (nI) 40)), (b1, k_ar 10 (G.2.1 0) (fun _ => 0)), (b2, k_ar 10 (G.2.1 0) (fun _ => 0)), (b3, k_ar 24 (G.2.1 0) (fun _ => 0)), (b4, k_ar 24 (G.2.1 0) (fun _ => 0)), (b5, k_al 24 (G.2.1 1) (fun _ => 0)), (b6, k_ar 24 (G.2.1 0) (fun _ => 0)), (b7, k_ar 72 (G.2.1 0) (fun _ => 0)), (b8, k_ar 24 (G.2.1 0) (fun _ => 0)), (b9, k_ar 24 (G.2.1 0) (fun _ => 0)), (b10, k_ar 24 (G.2.1 0) (fun _ => 0)), (b11, k_ar 96 (G.2.1 0) (fun _ => 0)), (b12, k_al 30 (G.2.1 1) (fun _ => 0)), (b13, k_ar 90 (G.2.1 0) (fun _ => 0)), (b14, k_ar 24 (G.2.1 2) (fun _ => 0)), (b15, k_al 24 (G.2.1 1) (fun _ => 0)), (b16, k_ar 72 (G.2.1 0) (fun _ => 0)), (b17, k_ar 24 (G.2.1 0) (fun _ => 0)), (b18, k_ar 24 (G.2.1 2) (fun _ => 0)), (b19, k_ar 30 (G.2.1 0) (fun _ => 0))][k]? = some ((match c with | 0 => k0 | 1 => a0 | 2 => a1 | 3 => a2 | 4 => a3 | 5 => a4 | 6 => a5 | 7 => a6 | 13 => g0 | 20 => b0 | 21 => b1 | 22 => b2 | 27 => b3 | 28 => b4 | 29 => b5 | 30 => b6 | 31 => b7 | 32 => b8 | 33 => b9 | 34 => b10 | 35 => b11 | 37 => b12 | 38 => b13 | 39 => b14 | 40 => b15 | 41 => b16 | 42 => b17 | 43 => b18 | 44 => b19 | _ => 0), k_ent G (fun c _ => match c with | 0 => k0 | 1 => a0 | 2 => a1 | 3 => a2 | 4 => a3 | 5 => a4 | 6 => a5 | 7 => a6 | 13 => g0 | 20 => b0 | 21 => b1 | 22 => b2 | 27 => b3 | 28 => b4 | 29 => b5 | 30 => b6 | 31 => b7 | 32 => b8 | 33 => b9 | 34 => b10 | 35 => b11 | 37 => b12 | 38 => b13 | 39 => b14 | 40 => b15 | 41 => b16 | 42 => b17 | 43 => b18 | 44 => b19 | _ => 0) c i (lw_I0 c i) (lw_J0 c i)) ∧ (match c with | 0 => 0 | 1 => 1 | 2 => 2 | 3 => 3 | 4 => 4 | 5 => 5 | 6 => 6 | 7 => 7 | 13 => 8 | 20 => 9 | 21 => 10 | 22 => 11 | 27 => 12 | 28 => 13 | 29 => 14 | 30 => 15 | 31 => 16 | 32 => 17 | 33 => 18 | 34 => 19 | 35 => 20 | 37 => 21 | 38 => 22 | 39 => 23 | 40 => 24 | 41 => 25 | 42 => 26 | 43 => 27 | 44 => 28 | _ => 0) = k := by
    intro c i hi
    unfold k_n at hi
    split at hi
    all_goals first
      | exact absurd hi (Nat.not_lt_zero _)
      | exact ⟨_, rfl, rfl⟩
  refine ⟨fun c i hi => ?_, fun c i c' i' hi hi' he => ?_⟩
  · obtain ⟨k, hk, -⟩ := key c i hi
    exact ⟨hP k _ hk, hD.2 k _ hk⟩
  · obtain ⟨k, hk, hck⟩ := key c i hi
    obtain ⟨k', hk', hck'⟩ := key c' i' hi'
    have h1 := hD.1 k k' _ _ hk hk' he
    rw [← hck, ← hck'] at h1
    clear hk hk' hck hck' he
    have hz : i = 0 ∧ i' = 0 := by
      constructor
      · unfold k_n at hi
        split at hi <;> omega
      · unfold k_n at hi'
        split at hi' <;> omega
    obtain ⟨rfl, rfl⟩ := hz
    refine ⟨?_, rfl⟩
    revert h1
    unfold k_n at hi hi'
    split at hi <;> first | exact absurd hi (Nat.not_lt_zero _) | (split at hi' <;> first | exact absurd hi' (Nat.not_lt_zero _) | (intro h; first | rfl | (exact absurd h (by decide))))
set_option maxHeartbeats 4000000 in
set_option maxRecDepth 100000 in
theorem lw_begin {RR : Nat → Nat → (Nat → Nat) → k_I → k_J → Prop} (R : k_Rel RR) {E0 : Nat → Nat} (R0 : RR 0 0 E0 lw_I0 lw_J0) {p : Program} {e : Env} {s : State} {m : MethodId} {below : List Frame} {meth : Method} {c : Code} (l : Launch) {b L : Nat} {xs : Nat → Int32} (hL : L ≤ 3584) (C0 : lw_At p s m meth c b L xs) : W p l e room_1 s m #[Value.ref b] below meth c s.heap [] 0 0 (lw_Z below #[Value.ref b] s) (entryFrame m ([Value.ref b] : List Value).toArray 4) := by
  obtain ⟨G, hG, X⟩ := lw_X0 C0
  obtain ⟨-, -, hr, -, -, -, hX, hbl, hlocks, -⟩ := C0
  have hx := X.1.1
  have hb := X.1.2.1
  have hA : ∀ q, s.heap.size ≤ q → k_A G q := fun q h => by unfold k_A; rw [hG]; exact h
  have hl := lv_entry ([.ref b]) (n := 4) (Nat.le_of_ble_eq_true rfl)
  rw [lg_entry_eq]
  generalize (lg_sl ([.ref b]) ++ List.replicate (4 - (lg_sl ([.ref b])).length) Slot.unset).toArray = ls at hl ⊢
  have hl : lv_has ls 4 [(0, .ref b)] := hl
  have hF : k_F G (k_A G) s [] s.heap [] := ⟨fun k q h => by simp at h, ⟨fun i j p q h => by simp at h, fun k q h => by simp at h⟩, va_S.rf⟩
  refine f_new X hF hA (ci := 4) (fs := [.null, .null, .null, .null, .int 0, .int 0, .int 0, .int 0]) rfl inG4 tyX4 tyX4_ok g10 g11 g1 (fun j hj => by rcases (show j = 0 ∨ j = 1 ∨ j = 2 ∨ j = 3 ∨ j = 4 ∨ j = 5 ∨ j = 6 ∨ j = 7 by omega) with rfl | rfl | rfl | rfl | rfl | rfl | rfl | rfl <;> rfl) (show _ ≤ 600000 by omega) (show _ ≤ 7302250 by omega) dL_law_0 (fun k0 H hF => ?_)
  refine W.cs (cells' := 1) (slots' := 8) rfl rfl ?_
  have hF : k_F G (k_A G) s [(k0, .inr (4, [.null, .null, .null, .null, .int 0, .int 0, .int 0, .int 0]))] H [] := hF
  refine lv_dup hx hb dL_law_3 rfl ?_
  refine w_cI X hF.2.2 (m_X4_init l G k0 H (hF.2.1.2 0 _ rfl) (hF.1 0 _ rfl)) g14 g1 g12 g13 rfl hd_X4_init ⟨Nat.le_of_ble_eq_true rfl, Nat.le_of_ble_eq_true rfl⟩ rfl hl.1 rfl (Nat.le_of_ble_eq_true rfl) dL_law_4 ⟨(show _ ≤ 600000 by decide), (show _ ≤ 7302250 by decide)⟩ (fun H1 locs1 hB hS1 => ?_)
  obtain ⟨a0, a1, a2, a3, a4, a5, a6, hP1, hD1⟩ := hB
  refine W.cs (cells' := 8) (slots' := 126) rfl rfl ?_
  have hF : k_F G (k_A G) s [(k0, .inr (4, [.ref a0, .ref a2, .ref a5, .ref a6, .int 0, .int 0, .int 2, .int 20])), (a0, .inr (2, [.ref a1])), (a1, k_ar 40 (G.2.1 0) (k_fil (nI) 40)), (a2, .inr (3, [.ref a3, .ref a4, .int 0])), (a3, k_ar 10 (G.2.1 0) (fun _ => 0)), (a4, k_ar 10 (G.2.1 0) (fun _ => 0)), (a5, .inl (G.2.1 3, 24, .inr (.inr (.inr (.inr (fun _ => none)))))), (a6, .inl (G.2.1 4, 30, .inr (.inr (.inr (.inr (fun _ => none))))))] H1 locs1 := ⟨hP1, hD1, hS1⟩
  clear hP1 hD1 hS1
  generalize H1 = H at hF ⊢
  generalize locs1 = locs at hF ⊢
  refine lv_astore_n (lv' := [(1, .ref k0), (0, .ref b)]) hx hb dL_law_7 rfl hl (by decide) rfl (fun ls hl => ?_)
  refine f_new X hF hA (ci := 5) (fs := [.null, .null, .null, .int 0, .int 0, .int 0, .int 0, .null, .null, .null, .null, .null, .null, .null, .null, .null, .int 0, .null, .null, .null, .null, .null, .null, .null, .null]) rfl inG5 tyX5 tyX5_ok g492 g493 g4 (fun j hj => by rcases (show j = 0 ∨ j = 1 ∨ j = 2 ∨ j = 3 ∨ j = 4 ∨ j = 5 ∨ j = 6 ∨ j = 7 ∨ j = 8 ∨ j = 9 ∨ j = 10 ∨ j = 11 ∨ j = 12 ∨ j = 13 ∨ j = 14 ∨ j = 15 ∨ j = 16 ∨ j = 17 ∨ j = 18 ∨ j = 19 ∨ j = 20 ∨ j = 21 ∨ j = 22 ∨ j = 23 ∨ j = 24 by omega) with rfl | rfl | rfl | rfl | rfl | rfl | rfl | rfl | rfl | rfl | rfl | rfl | rfl | rfl | rfl | rfl | rfl | rfl | rfl | rfl | rfl | rfl | rfl | rfl | rfl <;> rfl) (show _ ≤ 600000 by omega) (show _ ≤ 7302250 by omega) dL_law_8 (fun g0 H hF => ?_)
  refine W.cs (cells' := 9) (slots' := 151) rfl rfl ?_
  have hF : k_F G (k_A G) s ([(k0, .inr (4, [.ref a0, .ref a2, .ref a5, .ref a6, .int 0, .int 0, .int 2, .int 20])), (a0, .inr (2, [.ref a1])), (a1, k_ar 40 (G.2.1 0) (k_fil (nI) 40)), (a2, .inr (3, [.ref a3, .ref a4, .int 0])), (a3, k_ar 10 (G.2.1 0) (fun _ => 0)), (a4, k_ar 10 (G.2.1 0) (fun _ => 0)), (a5, .inl (G.2.1 3, 24, .inr (.inr (.inr (.inr (fun _ => none)))))), (a6, .inl (G.2.1 4, 30, .inr (.inr (.inr (.inr (fun _ => none))))))] ++ [(g0, .inr (5, [.null, .null, .null, .int 0, .int 0, .int 0, .int 0, .null, .null, .null, .null, .null, .null, .null, .null, .null, .int 0, .null, .null, .null, .null, .null, .null, .null, .null]))]) H locs := hF
  refine lv_dup hx hb dL_law_11 rfl ?_
  refine w_cI X hF.2.2 (m_X5_init l G g0 H (hF.2.1.2 8 _ rfl) (hF.1 8 _ rfl)) g496 g4 g494 g495 rfl hd_X5_init ⟨Nat.le_of_ble_eq_true rfl, Nat.le_of_ble_eq_true rfl⟩ rfl hl.1 rfl (Nat.le_of_ble_eq_true rfl) dL_law_12 ⟨(show _ ≤ 600000 by decide), (show _ ≤ 7302250 by decide)⟩ (fun H1 locs1 hB hS1 => ?_)
  obtain ⟨b0, b1, b2, b3, b4, b5, b6, b7, b8, b9, b10, b11, b12, b13, b14, b15, b16, b17, b18, b19, hB⟩ := hB
  refine W.cs (cells' := 29) (slots' := 865) rfl rfl ?_
  have hF := f_join (ws := [(k0, .inr (4, [.ref a0, .ref a2, .ref a5, .ref a6, .int 0, .int 0, .int 2, .int 20])), (a0, .inr (2, [.ref a1])), (a1, k_ar 40 (G.2.1 0) (k_fil (nI) 40)), (a2, .inr (3, [.ref a3, .ref a4, .int 0])), (a3, k_ar 10 (G.2.1 0) (fun _ => 0)), (a4, k_ar 10 (G.2.1 0) (fun _ => 0)), (a5, .inl (G.2.1 3, 24, .inr (.inr (.inr (.inr (fun _ => none)))))), (a6, .inl (G.2.1 4, 30, .inr (.inr (.inr (.inr (fun _ => none))))))]) X.2.2.2.2.2.1 hF hS1 hB
  clear hB hS1
  generalize H1 = H at hF ⊢
  generalize locs1 = locs at hF ⊢
  refine lv_astore_n (lv' := [(2, .ref g0), (1, .ref k0), (0, .ref b)]) hx hb dL_law_15 rfl hl (by decide) rfl (fun ls hl => ?_)
  refine lv_iconst (v := 0) hx hb dL_law_16 (by decide) ?_
  refine lv_istore_n (lv' := [(3, .int 0), (2, .ref g0), (1, .ref k0), (0, .ref b)]) hx hb dL_law_17 rfl hl (by decide) rfl (fun ls hl => ?_)
  obtain ⟨ad, e0, e13, hW⟩ := lw_W0 hF.1 hF.2.1
  have hl : lv_has ls 4 [(3, .int (nI 0)), (2, .ref (ad 13 0)), (1, .ref (ad 0 0)), (0, .ref b)] := by rw [e0, e13, nI_0]; exact hl
  exact lw_loop R X hX hbl hG hL hr hlocks 513 0 29 865 (by omega) (by omega) (by omega) (by omega) ad 0 0 E0 lw_I0 lw_J0 H locs ls R0 hW hF.2.2 hl
