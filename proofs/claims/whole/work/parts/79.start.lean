/-! the start, and all calls together -/
theorem RR_start : RR 0 0 id lw_I0 lw_J0 := by
  have v : ∀ {P : Nat → Prop}, ∀ i, i < 0 → P i := fun i hi => absurd hi (Nat.not_lt_zero i)
  refine ⟨⟨rfl, rfl, by decide, by decide, fun j hj => absurd hj (Nat.not_lt_zero j), fun j hj => absurd hj (Nat.not_lt_zero j)⟩, ⟨rfl, rfl, by decide, by decide, fun a ha => absurd ha (Nat.not_lt_zero a), fun j hj => absurd hj (by omega)⟩, fun _ _ => rfl, fun _ _ => rfl, ⟨⟨rfl, 2, by decide, rfl⟩, ⟨rfl, 20, by decide, rfl⟩, fun w hw => ⟨rfl, w, hw, if_pos hw⟩, rfl, fun _ _ => ⟨rfl, rfl⟩, v, v, v, v, v, v, v, v, v, v, v, v, v, v, ⟨fun _ => 0, fun x _ hx _ => absurd hx (Nat.not_lt_zero x)⟩⟩, ⟨v, v, v, v, v, v, v⟩, v⟩
theorem RR_rel : k_Rel RR :=
  ⟨fun h => h.ks, fun h => h.z6 _ (Nat.le_refl _), fun h => h.z7 _ (Nat.le_refl _), RR_fold, RR_changed, RR_rule, RR_answer, RR_join, RR_bind, RR_confirm, RR_move, RR_melt, RR_vote, RR_told, RR_words, RR_holds, RR_count, RR_quarrel, RR_ask, RR_found, RR_cost, RR_asked⟩
theorem whole_start {p : Program} {e : Env} {s : State} {m : MethodId} {below : List Frame} {meth : Method} {c : Code} (l : Launch) (hflags : l.flags = flags0) {b L : Nat} {xs : Nat → Int32} (hL : L ≤ 3584) (C0 : lw_At p s m meth c b L xs) : W p l e room_1 s m #[Value.ref b] below meth c s.heap [] 0 0 (lw_Z below #[Value.ref b] s) (entryFrame m ([Value.ref b] : List Value).toArray 4) :=
  lw_begin RR_rel RR_start l hL C0
