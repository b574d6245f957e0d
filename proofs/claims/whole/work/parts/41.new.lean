/-! a new object in the world of a run -/
section KN
variable {p : Program} {l : Launch} {e : Env} {R : Room} {s : State} {m : MethodId} {args : Array Value} {below : List Frame} {meth : Method} {c : Code} {H : Heap} {locs : List Loc} {cells slots : Nat} {Q : State → Prop}
variable {cc : ByteArray} {pc nL : Nat} {ls : Array Slot} {rest st : List Value} {own : String}
variable {G : k_G} {ad : Nat → Nat → Nat} {nA nK : Nat} {I : k_I} {J : k_J}
theorem w_newo (X : k_X p m c cc nL s args own G) (hW : Wd G ad nA nK I J H) (hS : va_S (k_A G) s.heap H locs) {C : String} {T : u_T} {N ci index : Nat} {fs : List Value} (hc : vwCl[ci]? = some (C, T, N)) (hin : ∀ w ∈ u_ws C T N, w ∈ GW) (ty0 : Nat → FieldType) (hty : ∀ k, k < N → parseFieldDescriptor (T k).2.2.1 = some (ty0 k)) (hcl : Cond.classLink own index C ∈ GW) (hinst : Cond.instantiable C N ∈ GW) (hini : Cond.initialized C ∈ GW) (hfs : ∀ j, j < N → defaultValue (ty0 j) = vp_V fs j) (hcells : cells + 1 ≤ R.cells) (hslots : slots + N ≤ R.slots) (hdg : decode cc pc = .ok (.new index, 3))
    (kk : ∀ (q : Nat) (H1 : Heap), Wd G ad nA nK I J H1 → va_S (k_A G) s.heap H1 locs → va_at G.1 vwCl (q, .inr (ci, fs)) H1 → k_A G q → (∀ c i, i < k_n nA nK c → ad c i ≠ q) → W p l e R s m args below meth c H1 locs (cells + 1) (slots + N) Q (F0 m (pc + 3) ls (.ref q :: rest))) : W p l e R s m args below meth c H locs cells slots Q (F0 m pc ls rest) := by
  have hKn := X.2.1.1 ci _ hc
  refine W.newcK X.1.1 X.1.2.1 X.1.2.2.2.1 (X.1.2.2.2.2 _ hcl) (X.1.2.2.2.2 _ hinst) (X.1.2.2.2.2 _ hini) rfl hdg hcells hslots hKn.2.1 rfl fun H1 kC hkC e1 z1 o1 => ?_
  refine kk H.size H1 (hW.kept fun c i hi => o1 _ (hW.lt c i hi)) ⟨Nat.le_trans hS.1 (by omega), fun x h1 h2 => (o1 x (Nat.lt_of_lt_of_le h1 hS.1)).trans (hS.2.1 x h1 h2), hS.2.2⟩ ?_ (Nat.le_trans X.2.2.2.2.2.1 hS.1) (fun c i hi h => ?_)
  · exact ⟨_, hc, (u_born ty0 X.1.2.2.2.2 hin hKn hkC e1 hty).to hfs⟩
  · have := hW.lt c i hi
    omega
theorem w_aast (X : k_X p m c cc nL s args own G) (hW : Wd G ad nA nK I J H) (hS : va_S (k_A G) s.heap H locs) (c0 c1 ti n ci : Nat) {r : vw_C} {fs : List Value} (hj0 : 0 < k_n nA nK c0) {i : Nat} (hi1 : i < k_n nA nK c1) (he : ∀ f g, k_ent G ad c0 0 f g = .inl (G.2.1 ti, n, .inr (.inr (.inr (.inr (fun j => if f j = 0 then none else some (ad c1 j))))))) (ht : (k_tys G)[ti]? = some (G.2.1 ti, .object r.1)) (hv : k_ent G ad c1 i (I c1 i) (J c1 i) = .inr (ci, fs)) (hc : vwCl[ci]? = some r) (hin : i < n ∧ n < 2 ^ 31) (hdg : decode cc pc = .ok (.aastore, 1))
    (kk : ∀ (H1 : Heap) (locs1 : List Loc), Wd G ad nA nK (k_up I c0 0 (upd (I c0 0) i 1)) J H1 → va_S (k_A G) s.heap H1 locs1 → W p l e R s m args below meth c H1 locs1 cells slots Q (F0 m (pc + 1) ls rest)) : W p l e R s m args below meth c H locs cells slots Q (F0 m pc ls (.ref (ad c1 i) :: .int (nI i) :: .ref (ad c0 0) :: rest)) := by
  have hK := X.2.1
  have hPa := (hW.1 c0 0 hj0).1
  have hPv := (hW.1 c1 i hi1).1
  rw [he] at hPa
  rw [hv] at hPv
  obtain ⟨r', hr', cellV, g1, g2, g3, -⟩ := hPv
  have hcls := (hK.1 ci r hc).2
  obtain ⟨kA, comp, k1, k2, k3, -⟩ := (hK.2 ti _ ht).2
  have hcomp : comp = G.1.1 ci := Option.some.inj (k3.symm.trans hcls.1)
  subst hcomp
  obtain ⟨kC, hkC, -⟩ := hcls.2
  have hcl2 : (nI i).toNatClampNeg = i := nI_clamp (Nat.lt_trans hin.1 hin.2)
  refine W.aast X.1.1 X.1.2.1 hPa (fun q h => by cases h) (fun h => by cases h) k1 k2 rfl hkC ⟨nI_pos (Nat.lt_trans hin.1 hin.2), by show _ < (arrV _ _ _).slots.size; rw [arrV_size, hcl2]; exact hin.1⟩ g1 (fun q h => by rw [g3] at h; cases h) (by rw [g2]; exact hkC) (by rw [g2]; exact va_assign hcls) rfl rfl hdg fun H1 e z oq => ?_
  have h1 := hW.wr c0 0 hj0 (f := upd (I c0 0) i 1) (g := J c0 0) (H1 := H1) (by
    rw [he]
    show H1[_]? = some (vp_cell _ _)
    rw [e]
    rw [vp_cell_q, vp_cell_q, arrV_store, hcl2]
    congr 2
    funext q
    by_cases hq : q = i
    · subst hq
      simp [updV, upd, va_rf]
    · simp [updV, upd, hq]) oq
  rw [k_up_id] at h1
  exact kk H1 _ h1 (hS.put z oq (hW.1 c0 0 hj0).2)
end KN
theorem Wd.grow {G : k_G} {ad ad' : Nat → Nat → Nat} {nA nK nA' nK' : Nat} {I I' : k_I} {J J' : k_J} {H H1 : Heap} {q0 : Nat} {ws : va_W} (hW : Wd G ad nA nK I J H) (hq : ∀ c i, i < k_n nA nK c → ad c i ≠ q0) (hG : k_A G q0) (hGs : G.2.2.1 ≤ H.size) (hN : k_Nw G H q0 ws H1)
    (hold : ∀ c i, i < k_n nA nK c → ad' c i = ad c i ∧ k_ent G ad' c i (I' c i) (J' c i) = k_ent G ad c i (I c i) (J c i))
    (hcov : ∀ c i, i < k_n nA' nK' c → i < k_n nA nK c ∨ ∃ k : Nat, ws[k]? = some (ad' c i, k_ent G ad' c i (I' c i) (J' c i)))
    (hinj : ∀ c i c' i', i < k_n nA' nK' c → ¬ i < k_n nA nK c → i' < k_n nA' nK' c' → ¬ i' < k_n nA nK c' → ad' c i = ad' c' i' → c = c' ∧ i = i') : Wd G ad' nA' nK' I' J' H1 := by
  have hn : ∀ c i, i < k_n nA' nK' c → ¬ i < k_n nA nK c → va_at G.1 vwCl (ad' c i, k_ent G ad' c i (I' c i) (J' c i)) H1 ∧ (ad' c i = q0 ∨ H.size ≤ ad' c i) := fun c i hi hj => by
    obtain ⟨k, hk⟩ := (hcov c i hi).resolve_left hj
    exact ⟨hN.1 k _ hk, hN.2.1.2 k _ hk⟩
  have ho : ∀ c i, i < k_n nA nK c → ad' c i < H.size ∧ ad' c i ≠ q0 := fun c i hi => by
    rw [(hold c i hi).1]; exact ⟨hW.lt c i hi, hq c i hi⟩
  refine ⟨fun c i hi => ?_, fun c i c' i' hi hi' he => ?_⟩
  · by_cases hj : i < k_n nA nK c
    · have h1 := hold c i hj
      rw [h1.2, h1.1]
      exact ⟨(hW.1 c i hj).1.kept (hN.2.2.2 _ (hW.lt c i hj) (hq c i hj)), (hW.1 c i hj).2⟩
    · have h1 := hn c i hi hj
      refine ⟨h1.1, ?_⟩
      rcases h1.2 with h | h
      · rw [h]; exact hG
      · exact Nat.le_trans hGs h
  · by_cases hj : i < k_n nA nK c <;> by_cases hj' : i' < k_n nA nK c'
    · rw [(hold c i hj).1, (hold c' i' hj').1] at he
      exact hW.2 c i c' i' hj hj' he
    · have h1 := ho c i hj
      rcases (hn c' i' hi' hj').2 with h | h
      · exact absurd (he.trans h) h1.2
      · omega
    · have h1 := ho c' i' hj'
      rcases (hn c i hi hj).2 with h | h
      · exact absurd (he.symm.trans h) h1.2
      · omega
    · exact hinj c i c' i' hi hj hi' hj' he
def k_ad3 (ad : Nat → Nat → Nat) (n a b c : Nat) : Nat → Nat → Nat := fun k i => if i = n then (if k = 8 then a else if k = 9 then b else if k = 10 then c else ad k i) else ad k i
def k_ad2 (ad : Nat → Nat → Nat) (n a b : Nat) : Nat → Nat → Nat := fun k i => if i = n then (if k = 11 then a else if k = 12 then b else ad k i) else ad k i
