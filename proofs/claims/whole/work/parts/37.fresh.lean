/-! new cells: pictures as lists of cells that are apart and lie in A; nothing outside A has changed -/
def k_F (G : k_G) (A : Nat → Prop) (s : State) (ws : va_W) (H : Heap) (locs : List Loc) : Prop := va_P G.1 vwCl ws H ∧ va_D A ws ∧ va_S A s.heap H locs
theorem nm_long {s : State} {cA : ClassId} (h : va_RA s cA .long) : s.vm.findClass "[J" = some cA := by
  have h : s.vm.findClass ("[" ++ FieldType.long.toString) = some cA := h
  exact h
theorem k_tyeq {G : k_G} {s : State} (hK : va_K G.1 vwCl (k_tys G) s) (ti : Nat) {cB cA : ClassId} {ty : FieldType} (ht : (k_tys G)[ti]? = some (cB, ty)) (h : va_RA s cA ty) : cA = cB := by
  have h2 : va_RA s cB ty := (hK.2 ti _ ht).2
  cases ty with
  | object C =>
    obtain ⟨_, _, _, _, _, h4⟩ := h
    obtain ⟨_, _, _, _, _, h5⟩ := h2
    exact Option.some.inj (h4.symm.trans h5)
  | _ =>
    have h : s.vm.findClass _ = some cA := h
    have h2 : s.vm.findClass _ = some cB := h2
    exact Option.some.inj (h.symm.trans h2)
section KF
variable {p : Program} {l : Launch} {e : Env} {R : Room} {s : State} {m : MethodId} {args : Array Value} {below : List Frame} {meth : Method} {c : Code} {H : Heap} {locs : List Loc} {cells slots : Nat} {Q : State → Prop}
variable {cc : ByteArray} {pc nL : Nat} {ls : Array Slot} {rest st : List Value} {own : String}
variable {G : k_G} {A : Nat → Prop} {ws : va_W}
theorem f_obj (X : k_X p m c cc nL s args own G) {idx : Nat} (hlink : Cond.methodLink own idx Lib.objectInit ∈ GW) (hinst : Cond.instanceMethod Lib.objectInit ∈ GW) (hcode : Cond.code Lib.objectInit ⟨#[0xb1]⟩ 1 none ∈ GW) {a : Nat} (hsize : ls.size = nL) (hf : 1 ≤ R.frames) (hl : 12 ≤ R.locals) (hdg : decode cc pc = .ok (.invokespecial idx, 3))
    (kk : W p l e R s m args below meth c H locs cells slots Q (F0 m (pc + 3) ls [])) : W p l e R s m args below meth c H locs cells slots Q (F0 m pc ls [.ref a]) :=
  W.objInit X.1.1 X.1.2.1 X.1.2.2.2.1 (X.1.2.2.2.2 _ hlink) (X.1.2.2.2.2 _ hinst) (X.1.2.2.2.2 _ hcode) (g := F0 m pc ls [.ref a]) rfl (by rw [X.1.2.2.1]; exact hsize) rfl hdg hf hl kk
theorem f_get (X : k_X p m c cc nL s args own G) (hF : k_F G A s ws H locs) (q0 : Nat) {C : String} {T : u_T} {N ci index a : Nat} {fs : List Value} (he : ws[q0]? = some (a, .inr (ci, fs))) (hc : vwCl[ci]? = some (C, T, N)) (hin : ∀ w ∈ u_ws C T N, w ∈ GW) (k : Nat) (hk : k < N) (hlink : Cond.fieldLink own index (T k).1 (T k).2.1 (T k).2.2.1 ∈ GW) {v : Value} (hv : fs[k]? = some v) (hdg : decode cc pc = .ok (.getfield index, 3))
    (kk : W p l e R s m args below meth c H locs cells slots Q (F0 m (pc + 3) ls (v :: rest))) : W p l e R s m args below meth c H locs cells slots Q (F0 m pc ls (.ref a :: rest)) :=
  va_get (D := G.1) (ci := ci) X.1.1 X.1.2.1 X.1.2.2.2.2 hin X.1.2.2.2.1 X.2.1 hF.1 q0 he hc k hk (X.1.2.2.2.2 _ hlink) (fun x h => h) hv hdg kk
theorem f_put (X : k_X p m c cc nL s args own G) (hF : k_F G A s ws H locs) (q0 : Nat) {C : String} {T : u_T} {N ci index a : Nat} {fs : List Value} (he : ws[q0]? = some (a, .inr (ci, fs))) (hc : vwCl[ci]? = some (C, T, N)) (hin : ∀ w ∈ u_ws C T N, w ∈ GW) (ty0 : Nat → FieldType) (hty : ∀ k, k < N → parseFieldDescriptor (T k).2.2.1 = some (ty0 k)) (hnm : ∀ a, a < N → ∀ b, b < N → a ≠ b → (T a).2.1 ≠ (T b).2.1) (k : Nat) (hk : k < N) (hlink : Cond.fieldLink own index (T k).1 (T k).2.1 (T k).2.2.1 ∈ GW) (hfin : (T k).2.2.2 = false) {v : Value} (hn : narrow (ty0 k) v = v) (hfit : fits (ty0 k) v = true) (hl : k < fs.length) (hdg : decode cc pc = .ok (.putfield index, 3))
    (kk : ∀ (H1 : Heap) (locs1 : List Loc), k_F G A s (ws.set q0 (a, .inr (ci, fs.set k v))) H1 locs1 → W p l e R s m args below meth c H1 locs1 cells slots Q (F0 m (pc + 3) ls rest)) : W p l e R s m args below meth c H locs cells slots Q (F0 m pc ls (v :: .ref a :: rest)) :=
  va_put (D := G.1) (ci := ci) (ty := ty0 k) X.1.1 X.1.2.1 X.1.2.2.2.2 hin ty0 hty hnm X.1.2.2.2.1 X.2.1 hF.1 hF.2.1 hF.2.2 q0 he hc k hk (X.1.2.2.2.2 _ hlink) (fun x h => h) hfin (hty k hk) hn hfit hl hdg (fun H1 locs1 h1 h2 h3 => kk H1 locs1 ⟨h1, h2, h3⟩)
theorem f_putF (X : k_X p m c cc nL s args own G) (hF : k_F G A s ws H locs) (q0 : Nat) {C : String} {T : u_T} {N ci index a : Nat} {fs : List Value} (he : ws[q0]? = some (a, .inr (ci, fs))) (hc : vwCl[ci]? = some (C, T, N)) (hin : ∀ w ∈ u_ws C T N, w ∈ GW) (ty0 : Nat → FieldType) (hty : ∀ k, k < N → parseFieldDescriptor (T k).2.2.1 = some (ty0 k)) (hnm : ∀ a, a < N → ∀ b, b < N → a ≠ b → (T a).2.1 ≠ (T b).2.1) (k : Nat) (hk : k < N) (hlink : Cond.fieldLink own index (T k).1 (T k).2.1 (T k).2.2.1 ∈ GW) (hfin : (T k).2.2.2 = true) (hi : meth.name = "<init>") (hdecl : (T k).1 = own) {v : Value} (hn : narrow (ty0 k) v = v) (hfit : fits (ty0 k) v = true) (hl : k < fs.length) (hdg : decode cc pc = .ok (.putfield index, 3))
    (kk : ∀ (H1 : Heap) (locs1 : List Loc), k_F G A s (ws.set q0 (a, .inr (ci, fs.set k v))) H1 locs1 → W p l e R s m args below meth c H1 locs1 cells slots Q (F0 m (pc + 3) ls rest)) : W p l e R s m args below meth c H locs cells slots Q (F0 m pc ls (v :: .ref a :: rest)) :=
  va_putF (D := G.1) (ci := ci) (ty := ty0 k) X.1.1 X.1.2.1 X.1.2.2.2.2 hin ty0 hty hnm X.1.2.2.2.1 X.2.1 hF.1 hF.2.1 hF.2.2 q0 he hc k hk (X.1.2.2.2.2 _ hlink) (fun x h => h) hfin hi hdecl (hty k hk) hn hfit hl hdg (fun H1 locs1 h1 h2 h3 => kk H1 locs1 ⟨h1, h2, h3⟩)
theorem f_new (X : k_X p m c cc nL s args own G) (hF : k_F G A s ws H locs) (hA : ∀ q, s.heap.size ≤ q → A q) {C : String} {T : u_T} {N ci index : Nat} {fs : List Value} (hc : vwCl[ci]? = some (C, T, N)) (hin : ∀ w ∈ u_ws C T N, w ∈ GW) (ty0 : Nat → FieldType) (hty : ∀ k, k < N → parseFieldDescriptor (T k).2.2.1 = some (ty0 k)) (hcl : Cond.classLink own index C ∈ GW) (hinst : Cond.instantiable C N ∈ GW) (hini : Cond.initialized C ∈ GW) (hfs : ∀ j, j < N → defaultValue (ty0 j) = vp_V fs j) (hcells : cells + 1 ≤ R.cells) (hslots : slots + N ≤ R.slots) (hdg : decode cc pc = .ok (.new index, 3))
    (kk : ∀ (q : Nat) (H1 : Heap), k_F G A s (ws ++ [(q, .inr (ci, fs))]) H1 locs → W p l e R s m args below meth c H1 locs (cells + 1) (slots + N) Q (F0 m (pc + 3) ls (.ref q :: rest))) : W p l e R s m args below meth c H locs cells slots Q (F0 m pc ls rest) :=
  va_new (D := G.1) (ci := ci) (fs := fs) X.1.1 X.1.2.1 X.1.2.2.2.2 hin ty0 hty X.1.2.2.2.1 (X.1.2.2.2.2 _ hcl) (X.1.2.2.2.2 _ hinst) (X.1.2.2.2.2 _ hini) X.2.1 hF.1 hF.2.1 hF.2.2 hA hc hfs hcells hslots hdg (fun q H1 h1 h2 h3 => kk q H1 ⟨h1, h2, h3⟩)
theorem f_newa (X : k_X p m c cc nL s args own G) (hF : k_F G A s ws H locs) (hA : ∀ q, s.heap.size ≤ q → A q) {atype : ArrayType} {ty : FieldType} {ti : Nat} {cB : ClassId} (hg : Cond.arrayClass (newarray.typeOf atype) ∈ GW ∨ (Cond.arrayClass (newarray.typeOf atype)).before args s = true) (hty : newarray.typeOf atype = ty) (ht : (k_tys G)[ti]? = some (cB, ty)) {n : Int32} {N' : Nat} {a0 : vp_A} (ha : ∀ cA : ClassId, vp_cell cA a0 = arrV cA N' (fun _ => defaultValue ty)) (hn : ¬ n < 0) (hN : n.toNatClampNeg = N') (hbytes : N' * componentBytes ty ≤ 536870912) (hcells : cells + 1 ≤ R.cells) (hslots : slots + N' ≤ R.slots) (hdg : decode cc pc = .ok (.newarray atype, 2))
    (kk : ∀ (q : Nat) (H1 : Heap), k_F G A s (ws ++ [(q, .inl (cB, a0))]) H1 locs → W p l e R s m args below meth c H1 locs (cells + 1) (slots + N') Q (F0 m (pc + 2) ls (.ref q :: rest))) : W p l e R s m args below meth c H locs cells slots Q (F0 m pc ls (.int n :: rest)) := by
  refine va_newa (D := G.1) (cl := vwCl) (tys := k_tys G) (atype := atype) (a0 := a0) X.1.1 X.1.2.1 (hg.elim (X.1.2.2.2.2 _) id) hty X.2.1 hF.1 hF.2.1 hF.2.2 hA ha hn hN hbytes hcells hslots hdg (fun q cA H1 hK h1 h2 h3 => ?_)
  have e := k_tyeq X.2.1 ti ht (hK.2 (k_tys G).length (cA, ty) (by simp)).2
  subst e
  exact kk q H1 ⟨h1, h2, h3⟩
theorem f_newq (X : k_X p m c cc nL s args own G) (hF : k_F G A s ws H locs) (hA : ∀ q, s.heap.size ≤ q → A q) {C : String} {index ti : Nat} {cB : ClassId} (hcl : Cond.classLink own index C ∈ GW) (hover : va_AO C s) (ht : (k_tys G)[ti]? = some (cB, .object C)) {n : Int32} {N' : Nat} (hn : ¬ n < 0) (hN : n.toNatClampNeg = N') (hbytes : N' * 4 ≤ 536870912) (hcells : cells + 1 ≤ R.cells) (hslots : slots + N' ≤ R.slots) (hdg : decode cc pc = .ok (.anewarray index, 3))
    (kk : ∀ (q : Nat) (H1 : Heap), k_F G A s (ws ++ [(q, .inl (cB, N', .inr (.inr (.inr (.inr (fun _ => none))))))]) H1 locs → W p l e R s m args below meth c H1 locs (cells + 1) (slots + N') Q (F0 m (pc + 3) ls (.ref q :: rest))) : W p l e R s m args below meth c H locs cells slots Q (F0 m pc ls (.int n :: rest)) := by
  refine va_newq (D := G.1) (cl := vwCl) (tys := k_tys G) X.1.1 X.1.2.1 X.1.2.2.2.1 (X.1.2.2.2.2 _ hcl) hover X.2.1 hF.1 hF.2.1 hF.2.2 hA hn hN hbytes hcells hslots hdg (fun q cA H1 hK h1 h2 h3 => ?_)
  have e := k_tyeq X.2.1 ti ht (hK.2 (k_tys G).length (cA, .object C) (by simp)).2
  subst e
  exact kk q H1 ⟨h1, h2, h3⟩
theorem f_iast (X : k_X p m c cc nL s args own G) (hF : k_F G A s ws H locs) (q0 : Nat) {n a i : Nat} {f : Nat → Int32} {x : Int32} (he : ws[q0]? = some (a, k_ar n (G.2.1 0) f)) (hin : i < n ∧ n < 2 ^ 31) (hdg : decode cc pc = .ok (.iastore, 1))
    (kk : ∀ (H1 : Heap) (locs1 : List Loc), k_F G A s (ws.set q0 (a, k_ar n (G.2.1 0) (upd f i x))) H1 locs1 → W p l e R s m args below meth c H1 locs1 cells slots Q (F0 m (pc + 1) ls rest)) : W p l e R s m args below meth c H locs cells slots Q (F0 m pc ls (.int x :: .int (nI i) :: .ref a :: rest)) := by
  refine va_iast (D := G.1) (cl := vwCl) (tys := k_tys G) X.1.1 X.1.2.1 X.2.1 hF.1 hF.2.1 hF.2.2 q0 0 he rfl (vp_in_nI hin.1 hin.2) hdg (fun H1 locs1 h1 h2 h3 => ?_)
  rw [nI_clamp (Nat.lt_trans hin.1 hin.2)] at h1 h2
  exact kk H1 locs1 ⟨h1, h2, h3⟩
theorem f_alen (X : k_X p m c cc nL s args own G) (hF : k_F G A s ws H locs) (q0 : Nat) {n a : Nat} {f : Nat → Int32} {v : Int32} (he : ws[q0]? = some (a, k_ar n (G.2.1 0) f)) (hv : Int32.ofNat n = v) (hdg : decode cc pc = .ok (.arraylength, 1))
    (kk : W p l e R s m args below meth c H locs cells slots Q (F0 m (pc + 1) ls (.int v :: rest))) : W p l e R s m args below meth c H locs cells slots Q (F0 m pc ls (.ref a :: rest)) :=
  va_alen (D := G.1) (cl := vwCl) (tys := k_tys G) X.1.1 X.1.2.1 X.2.1 hF.1 q0 0 he (ty := .int) rfl (v := v) hv hdg kk
theorem f_vret (X : k_X p m c cc nL s args own G) (hr : meth.sig.returnType = none) (hlk : meth.locks = false) (hF : k_F G A s ws H locs) (hAA : ∀ q, A q → k_A G q) {B : Heap → Prop} (hB : B H) {mc ms : Nat} (hmc : cells ≤ mc) (hms : slots ≤ ms) (hdg : decode cc pc = .ok (.return_, 1)) : W p l e R s m args below meth c H locs cells slots (MQ below (k_Q G none B) args s mc ms (k_A G)) (F0 m pc ls []) :=
  W.widen hmc hms (w_vret X hr hlk ⟨hF.2.2.1, fun q h1 h2 => hF.2.2.2.1 q h1 (fun h => h2 (hAA q h)), fun q hq => hAA _ (hF.2.2.2.2 q hq)⟩ hB hdg)
end KF
/-- what a constructor leaves: the list of cells, apart, new but for the object itself; all that was there before stays -/
def k_Nw (G : k_G) (H0 : Heap) (h0 : Nat) (ws : va_W) (H : Heap) : Prop := va_P G.1 vwCl ws H ∧ va_D (fun q => q = h0 ∨ H0.size ≤ q) ws ∧ H0.size ≤ H.size ∧ ∀ q, q < H0.size → q ≠ h0 → H[q]? = H0[q]?
theorem k_F.nw {G : k_G} {s : State} {ws : va_W} {H : Heap} {locs : List Loc} {h0 : Nat} (h : k_F G (fun q => q = h0 ∨ s.heap.size ≤ q) s ws H locs) : k_Nw G s.heap h0 ws H :=
  ⟨h.1, h.2.1, h.2.2.1, fun q h1 h2 => h.2.2.2.1 q h1 (fun hq => hq.elim h2 (fun h3 => absurd h3 (Nat.not_le.mpr h1)))⟩
theorem k_F.one {G : k_G} {s : State} {h0 : Nat} {e : va_E} (h : va_at G.1 vwCl (h0, e) s.heap) : k_F G (fun q => q = h0 ∨ s.heap.size ≤ q) s [(h0, e)] s.heap [] := by
  refine ⟨fun k q hk => ?_, ⟨fun i j p q hi hj _ => ?_, fun k q hk => ?_⟩, va_S.rf⟩
  · match k, hk with
    | 0, hk => cases hk; exact h
  · match i, j, hi, hj with
    | 0, 0, _, _ => rfl
  · match k, hk with
    | 0, hk => cases hk; exact Or.inl rfl
/-- contents filled up to i -/
def k_fil (V : Nat → Int32) (i : Nat) : Nat → Int32 := fun j => if j < i then V j else 0
theorem k_fil_0 (V : Nat → Int32) : (fun _ => (0 : Int32)) = k_fil V 0 := by funext j; simp [k_fil]
theorem k_fil_s (V : Nat → Int32) (i : Nat) : upd (k_fil V i) i (V i) = k_fil V (i + 1) := by
  funext j
  unfold k_fil upd
  by_cases h : j = i
  · subst h; simp
  · have : (j < i + 1) ↔ j < i := by omega
    simp [h, this]
abbrev k_AN (h0 : Nat) (s : State) : Nat → Prop := fun q => q = h0 ∨ s.heap.size ≤ q
theorem k_F.wide {G : k_G} {A A2 : Nat → Prop} {s : State} {ws : va_W} {H : Heap} {locs : List Loc} (h : k_F G A s ws H locs) (hA : ∀ q, A q → A2 q) : k_F G A2 s ws H locs :=
  ⟨h.1, ⟨h.2.1.1, fun k q hk => hA _ (h.2.1.2 k q hk)⟩, h.2.2.1, fun q h1 h2 => h.2.2.2.1 q h1 (fun hq => h2 (hA q hq)), fun q hq => hA _ (h.2.2.2.2 q hq)⟩
theorem f_join {G : k_G} {s : State} {ws ws' : va_W} {q0 : Nat} {e0 : va_E} {H H2 : Heap} {locs locs2 : List Loc} (hG : G.2.2.1 ≤ s.heap.size) (hF : k_F G (k_A G) s (ws ++ [(q0, e0)]) H locs) (hS : va_S (k_A G) s.heap H2 locs2) (hN : k_Nw G H q0 ws' H2) : k_F G (k_A G) s (ws ++ ws') H2 locs2 := by
  have hw : ∀ (k : Nat) (q : Nat × va_E), ws[k]? = some q → (ws ++ [(q0, e0)])[k]? = some q := fun k q hk => by
    rw [List.getElem?_append_left (List.getElem?_eq_some_iff.mp hk).1]; exact hk
  have hne : ∀ (k : Nat) (q : Nat × va_E), ws[k]? = some q → q.1 ≠ q0 := fun k q hk hq => by
    have h1 := hF.2.1.1 k ws.length q (q0, e0) (hw k q hk) (by simp) hq
    have := (List.getElem?_eq_some_iff.mp hk).1
    omega
  have hlt : ∀ (k : Nat) (q : Nat × va_E), ws[k]? = some q → q.1 < H.size := fun k q hk => (hF.1 k q (hw k q hk)).lt
  refine ⟨?_, ?_, hS⟩
  · refine va_P.app (fun k q hk => ?_) hN.1
    exact (hF.1 k q (hw k q hk)).kept (hN.2.2.2 _ (hlt k q hk) (hne k q hk))
  · refine va_D.app ⟨fun i j p q hi hj e => hF.2.1.1 i j p q (hw i p hi) (hw j q hj) e, fun k q hk => hF.2.1.2 k q (hw k q hk)⟩ ⟨hN.2.1.1, fun k q hk => ?_⟩ ?_
    · rcases hN.2.1.2 k q hk with h | h
      · rw [h]; exact hF.2.1.2 ws.length (q0, e0) (by simp)
      · exact Nat.le_trans hG (Nat.le_trans hF.2.2.1 h)
    · intro i j p q hi hj e
      rcases hN.2.1.2 j q hj with h | h
      · exact hne i p hi (e.trans h)
      · exact absurd (hlt i p hi) (by rw [e]; exact Nat.not_lt.mpr h)
