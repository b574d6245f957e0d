/-! the world of a run: kinds of cells c (0 .. 44), the i-th of a kind at the address ad c i; what they hold: ints I c i slot, longs J c i slot -/
abbrev k_I : Type := Nat → Nat → Nat → Int32
abbrev k_J : Type := Nat → Nat → Nat → Int64
/-- what stays in a run: the classes' numbers and slots, the array classes, the least new address, the address of ALL_VALUES -/
abbrev k_G : Type := va_G × (Nat → ClassId) × Nat × Nat
abbrev k_A (G : k_G) : Nat → Prop := fun q => G.2.2.1 ≤ q
def k_n (nA nK : Nat) (c : Nat) : Nat := match c with
  | 0 => 1 | 1 => 1 | 2 => 1 | 3 => 1 | 4 => 1 | 5 => 1 | 6 => 1 | 7 => 1
  | 8 => nA | 9 => nA | 10 => nA | 11 => nK | 12 => nK
  | 13 => 1 | 20 => 1 | 21 => 1 | 22 => 1 | 27 => 1 | 28 => 1 | 29 => 1 | 30 => 1 | 31 => 1 | 32 => 1 | 33 => 1 | 34 => 1 | 35 => 1
  | 37 => 1 | 38 => 1 | 39 => 1 | 40 => 1 | 41 => 1 | 42 => 1 | 43 => 1 | 44 => 1
  | _ => 0
def k_ar (n : Nat) (cA : ClassId) (f : Nat → Int32) : va_E := .inl (cA, n, .inl f)
def k_al (n : Nat) (cA : ClassId) (f : Nat → Int64) : va_E := .inl (cA, n, .inr (.inl f))
def k_ent (G : k_G) (ad : Nat → Nat → Nat) (c i : Nat) (f : Nat → Int32) (g : Nat → Int64) : va_E := match c with
  | 0 => .inr (4, [.ref (ad 1 0), .ref (ad 3 0), .ref (ad 6 0), .ref (ad 7 0), .int (f 4), .int (f 5), .int (f 6), .int (f 7)])
  | 1 => .inr (2, [.ref (ad 2 0)])
  | 2 => k_ar 40 (G.2.1 0) f
  | 3 => .inr (3, [.ref (ad 4 0), .ref (ad 5 0), .int (f 2)])
  | 4 => k_ar 10 (G.2.1 0) f
  | 5 => k_ar 10 (G.2.1 0) f
  | 6 => .inl (G.2.1 3, 24, .inr (.inr (.inr (.inr (fun j => if f j = 0 then none else some (ad 8 j))))))
  | 7 => .inl (G.2.1 4, 30, .inr (.inr (.inr (.inr (fun j => if f j = 0 then none else some (ad 11 j))))))
  | 8 => .inr (0, [.int (f 0), .int (f 1), .int (f 2), .ref (ad 9 i), .ref (ad 10 i), .long (g 5), .int (f 6), .int (f 7), .int (f 8), .int (f 9), .long (g 10), .int (f 11), .int (f 12)])
  | 9 => k_ar 3 (G.2.1 0) f
  | 10 => k_ar 4 (G.2.1 0) f
  | 11 => .inr (1, [.long (g 0), .ref (ad 12 i), .long (g 2)])
  | 12 => k_ar 3 (G.2.1 0) f
  | 13 => .inr (5, [.ref (ad 20 0), .ref (ad 21 0), .ref (ad 22 0), .int (f 3), .int (f 4), .int (f 5), .int (f 6), .ref (ad 27 0), .ref (ad 28 0), .ref (ad 29 0), .ref (ad 30 0), .ref (ad 31 0), .ref (ad 32 0), .ref (ad 33 0), .ref (ad 34 0), .ref (ad 35 0), .int (f 16), .ref (ad 37 0), .ref (ad 38 0), .ref (ad 39 0), .ref (ad 40 0), .ref (ad 41 0), .ref (ad 42 0), .ref (ad 43 0), .ref (ad 44 0)])
  | 20 => k_ar 40 (G.2.1 0) f
  | 21 => k_ar 10 (G.2.1 0) f
  | 22 => k_ar 10 (G.2.1 0) f
  | 27 => k_ar 24 (G.2.1 0) f
  | 28 => k_ar 24 (G.2.1 0) f
  | 29 => k_al 24 (G.2.1 1) g
  | 30 => k_ar 24 (G.2.1 0) f
  | 31 => k_ar 72 (G.2.1 0) f
  | 32 => k_ar 24 (G.2.1 0) f
  | 33 => k_ar 24 (G.2.1 0) f
  | 34 => k_ar 24 (G.2.1 0) f
  | 35 => k_ar 96 (G.2.1 0) f
  | 37 => k_al 30 (G.2.1 1) g
  | 38 => k_ar 90 (G.2.1 0) f
  | 39 => k_ar 24 (G.2.1 2) f
  | 40 => k_al 24 (G.2.1 1) g
  | 41 => k_ar 72 (G.2.1 0) f
  | 42 => k_ar 24 (G.2.1 0) f
  | 43 => k_ar 24 (G.2.1 2) f
  | _ => k_ar 30 (G.2.1 0) f
def k_tys (G : k_G) : List (ClassId × FieldType) := [(G.2.1 0, .int), (G.2.1 1, .long), (G.2.1 2, .boolean), (G.2.1 3, .object "AnswerKeeper$Answer"), (G.2.1 4, .object "AnswerKeeper$Ask")]
def k_allv (j : Nat) : Int32 := if j = 0 then 255 else if j = 1 then 1023 else 15
def k_up {α : Type} (I : Nat → Nat → α) (c i : Nat) (f : α) : Nat → Nat → α := fun c' i' => if c' = c ∧ i' = i then f else I c' i'
theorem k_up_id {α : Type} (I : Nat → Nat → α) (c i : Nat) : k_up I c i (I c i) = I := by
  funext c' i'
  unfold k_up
  split
  · next h => rw [h.1, h.2]
  · rfl
def Wd (G : k_G) (ad : Nat → Nat → Nat) (nA nK : Nat) (I : k_I) (J : k_J) (H : Heap) : Prop :=
  (∀ c i, i < k_n nA nK c → va_at G.1 vwCl (ad c i, k_ent G ad c i (I c i) (J c i)) H ∧ k_A G (ad c i)) ∧
  (∀ c i c' i', i < k_n nA nK c → i' < k_n nA nK c' → ad c i = ad c' i' → c = c' ∧ i = i')
theorem Wd.wr {G : k_G} {ad : Nat → Nat → Nat} {nA nK : Nat} {I : k_I} {J : k_J} {H H1 : Heap} (h : Wd G ad nA nK I J H) (c i : Nat) (hi : i < k_n nA nK c) {f : Nat → Int32} {g : Nat → Int64} (e : va_at G.1 vwCl (ad c i, k_ent G ad c i f g) H1) (oq : ∀ q, q ≠ ad c i → H1[q]? = H[q]?) : Wd G ad nA nK (k_up I c i f) (k_up J c i g) H1 := by
  refine ⟨fun c' i' hi' => ?_, h.2⟩
  by_cases hc : c' = c ∧ i' = i
  · obtain ⟨rfl, rfl⟩ := hc
    simp only [k_up, and_self, if_true]
    exact ⟨e, (h.1 _ _ hi).2⟩
  · have hne : ad c' i' ≠ ad c i := fun q => hc (h.2 _ _ _ _ hi' hi q)
    simp only [k_up, hc, if_false]
    exact ⟨(h.1 _ _ hi').1.kept (oq _ hne), (h.1 _ _ hi').2⟩
theorem Wd.kept {G : k_G} {ad : Nat → Nat → Nat} {nA nK : Nat} {I : k_I} {J : k_J} {H H1 : Heap} (h : Wd G ad nA nK I J H) (hq : ∀ c i, i < k_n nA nK c → H1[ad c i]? = H[ad c i]?) : Wd G ad nA nK I J H1 :=
  ⟨fun c i hi => ⟨(h.1 c i hi).1.kept (hq c i hi), (h.1 c i hi).2⟩, h.2⟩
theorem Wd.lt {G : k_G} {ad : Nat → Nat → Nat} {nA nK : Nat} {I : k_I} {J : k_J} {H : Heap} (h : Wd G ad nA nK I J H) (c i : Nat) (hi : i < k_n nA nK c) : ad c i < H.size := (h.1 c i hi).1.lt
theorem Wd.P {G : k_G} {ad : Nat → Nat → Nat} {nA nK : Nat} {I : k_I} {J : k_J} {H : Heap} (h : Wd G ad nA nK I J H) (c i : Nat) (hi : i < k_n nA nK c) : va_P G.1 vwCl [(ad c i, k_ent G ad c i (I c i) (J c i))] H := by
  intro k q hk
  match k, hk with
  | 0, hk => cases hk; exact (h.1 c i hi).1
/-! what a method may rely on: the classes, the static array, the nest links -/
abbrev k_N0 : Cond := .methodLinkNest "AnswerKeeper" 18 ⟨"AnswerKeeper$Things", "<init>", "()V"⟩ "AnswerKeeper"
abbrev k_N1 : Cond := .methodLinkNest "AnswerKeeper$Things" 22 ⟨"AnswerKeeper", "bit", "(I)I"⟩ "AnswerKeeper"
abbrev k_N2 : Cond := .methodLinkNest "AnswerKeeper$Answer" 71 ⟨"AnswerKeeper", "allValues", "(I)I"⟩ "AnswerKeeper"
abbrev k_N3 : Cond := .methodLinkNest "AnswerKeeper$Answer" 62 ⟨"AnswerKeeper", "bit", "(I)I"⟩ "AnswerKeeper"
def k_Wk (G : k_G) (s : State) : Prop := va_K G.1 vwCl (k_tys G) s ∧ va_Z "AnswerKeeper" "ALL_VALUES" "[I" (.ref G.2.2.2) (k_A G) s s.heap ∧ va_T .int G.2.2.2 3 (fun j => .int (k_allv j)) (k_A G) s s.heap ∧ (va_Nw k_N0 s ∧ va_Nw k_N1 s ∧ va_Nw k_N2 s ∧ va_Nw k_N3 s) ∧ G.2.2.1 ≤ s.heap.size ∧ (va_AO "AnswerKeeper$Answer" s ∧ va_AO "AnswerKeeper$Ask" s)
theorem k_Wk.calling {G : k_G} {U : State} (a : Array Value) (g : JFrame) (mk : MethodId) (h : k_Wk G U) : k_Wk G (U.calling g mk a) := by
  obtain ⟨h1, h2, h3, ⟨n0, n1, n2, n3⟩, h5, o1, o2⟩ := h
  have al : U.vm.Alike (U.calling g mk a).vm := Vm.Alike.refl U.vm
  exact ⟨va_K.moved (u := U) al h1, va_Z.moved (u := U) al h2, va_T.moved (u := U) al h3, ⟨va_Nw.same rfl (u := U) rfl n0, va_Nw.same rfl (u := U) rfl n1, va_Nw.same rfl (u := U) rfl n2, va_Nw.same rfl (u := U) rfl n3⟩, h5, va_AO.moved (u := U) al o1, va_AO.moved (u := U) al o2⟩
theorem k_Wk.go {G : k_G} {s U : State} {H : Heap} {locs : List Loc} (h : k_Wk G s) (hS : va_S (k_A G) s.heap H locs) (hU : U.heap = H) (hW : s.WarmedH U.vm) : k_Wk G U := by
  obtain ⟨h1, h2, h3, ⟨n0, n1, n2, n3⟩, h5, o1, o2⟩ := h
  refine ⟨va_K.moved hW.alike h1, ?_, ?_, ⟨va_Nw.warmM hW n0, va_Nw.warmM hW n1, va_Nw.warmM hW n2, va_Nw.warmM hW n3⟩, by rw [hU]; exact Nat.le_trans h5 hS.1, va_AO.moved hW.alike o1, va_AO.moved hW.alike o2⟩
  · rw [hU]
    exact (h2.kept hS.2.1).moved hW.alike
  · rw [hU]
    exact (h3.kept hS.2.1).moved hW.alike
/-! contracts: from the heap's picture P the method answers v and leaves the picture B; below G's least address nothing changes -/
def k_Q (G : k_G) (v : Option Value) (B : Heap → Prop) : Array Value → State → Outcome → State → Prop := fun _ st oc t => oc = .returned v ∧ B t.heap ∧ va_F (k_A G) st t
abbrev k_Met (l : Launch) (y : MethodName) (cc : ByteArray) (maxL : Nat) (ret : Option FieldType) (rm : Room) (G : k_G) (av : List Value) (P : Heap → Prop) (v : Option Value) (B : Heap → Prop) (mc ms : Nat) : Prop :=
  Met l y (Cond.code y cc maxL ret :: GW) rm (va_Pc av (fun U => k_Wk G U ∧ P U.heap)) (k_Q G v B) mc ms (k_A G)
/-- a method's frame: what its instructions may use -/
abbrev k_X (p : Program) (m : MethodId) (c : Code) (cc : ByteArray) (nL : Nat) (s : State) (args : Array Value) (own : String) (G : k_G) : Prop := CallFix p m c cc nL s args GW own ∧ k_Wk G s
theorem k_body {l : Launch} {y : MethodName} {cc : ByteArray} {maxL : Nat} {ret : Option FieldType} {rm : Room} {G : k_G} {av : List Value} {P : Heap → Prop} {v : Option Value} {B : Heap → Prop} {mc ms : Nat} (hy : plainName y.cls = true) (hav : (lg_sl av).length ≤ maxL)
    (body : ∀ (p : Program) (e : Env) (s : State) (m : MethodId) (below : List Frame) (meth : Method) (c : Code) (ls : Array Slot), k_X p m c cc maxL s av.toArray y.cls G → meth.sig.returnType = ret → meth.locks = false → meth.name = y.name → P s.heap → va_S (k_A G) s.heap s.heap [] → lv_has ls maxL (lv_args 0 av) →
      W p l e rm s m av.toArray below meth c s.heap [] 0 0 (MQ below (k_Q G v B) av.toArray s mc ms (k_A G)) (F0 m 0 ls [])) : k_Met l y cc maxL ret rm G av P v B mc ms := by
  refine Met.ofW (cc := cc) (maxL := maxL) (ret := ret) hy rfl ?_
  intro p e s m args below meth c s₁ B hml hv
  obtain ⟨rfl, hWk, hP⟩ := hv
  have hts := atoms_spec (ws := Cond.code y cc maxL ret :: GW) B.pre
  have hown : s.vm.findClass y.cls = some m.cls := findClass_of_methodNamed B.named
  rw [lg_entry_eq]
  exact body p e s m below meth c _ ⟨⟨B.exec, B.bytes, hml, hown, fun w hw => hts w (List.mem_cons_of_mem _ hw)⟩, hWk⟩ B.returns B.notSynchronized (name_of_methodNamed B.named B.method).1 hP va_S.rf (lv_entry av hav)
section KW
variable {p : Program} {l : Launch} {e : Env} {R : Room} {s : State} {m : MethodId} {args : Array Value} {below : List Frame} {meth : Method} {c : Code} {H : Heap} {locs : List Loc} {cells slots : Nat} {Q : State → Prop}
variable {cc : ByteArray} {pc nL : Nat} {ls : Array Slot} {rest st : List Value} {own : String}
variable {G : k_G} {ad : Nat → Nat → Nat} {nA nK : Nat} {I : k_I} {J : k_J}
theorem w_get (X : k_X p m c cc nL s args own G) (hW : Wd G ad nA nK I J H) (c0 i : Nat) (hi : i < k_n nA nK c0) {C : String} {T : u_T} {N ci index : Nat} {fs : List Value} (he : k_ent G ad c0 i (I c0 i) (J c0 i) = .inr (ci, fs)) (hc : vwCl[ci]? = some (C, T, N)) (hin : ∀ w ∈ u_ws C T N, w ∈ GW) (k : Nat) (hk : k < N) (hlink : Cond.fieldLink own index (T k).1 (T k).2.1 (T k).2.2.1 ∈ GW) {v : Value} (hv : fs[k]? = some v) (hdg : decode cc pc = .ok (.getfield index, 3))
    (kk : W p l e R s m args below meth c H locs cells slots Q (F0 m (pc + 3) ls (v :: rest))) : W p l e R s m args below meth c H locs cells slots Q (F0 m pc ls (.ref (ad c0 i) :: rest)) := by
  obtain ⟨⟨hx, hb, hml, hown, hts⟩, hWk⟩ := X
  have hP := hW.P c0 i hi
  rw [he] at hP
  exact va_get (D := G.1) (ci := ci) hx hb hts hin hown hWk.1 hP 0 rfl hc k hk (hts _ hlink) (fun x h => h) hv hdg kk
theorem w_put (X : k_X p m c cc nL s args own G) (hW : Wd G ad nA nK I J H) (hS : va_S (k_A G) s.heap H locs) (c0 i : Nat) (hi : i < k_n nA nK c0) {C : String} {T : u_T} {N ci index : Nat} {fs : List Value} (he : k_ent G ad c0 i (I c0 i) (J c0 i) = .inr (ci, fs)) (hc : vwCl[ci]? = some (C, T, N)) (hin : ∀ w ∈ u_ws C T N, w ∈ GW) (ty0 : Nat → FieldType) (hty : ∀ k, k < N → parseFieldDescriptor (T k).2.2.1 = some (ty0 k)) (hnm : ∀ a, a < N → ∀ b, b < N → a ≠ b → (T a).2.1 ≠ (T b).2.1) (k : Nat) (hk : k < N) (hlink : Cond.fieldLink own index (T k).1 (T k).2.1 (T k).2.2.1 ∈ GW) (hfin : (T k).2.2.2 = false) {v : Value} (hn : narrow (ty0 k) v = v) (hfit : fits (ty0 k) v = true) (hl : k < fs.length) {f' : Nat → Int32} {g' : Nat → Int64} (he' : k_ent G ad c0 i f' g' = .inr (ci, fs.set k v)) (hdg : decode cc pc = .ok (.putfield index, 3))
    (kk : ∀ (H1 : Heap) (locs1 : List Loc), Wd G ad nA nK (k_up I c0 i f') (k_up J c0 i g') H1 → va_S (k_A G) s.heap H1 locs1 → W p l e R s m args below meth c H1 locs1 cells slots Q (F0 m (pc + 3) ls rest)) : W p l e R s m args below meth c H locs cells slots Q (F0 m pc ls (v :: .ref (ad c0 i) :: rest)) := by
  obtain ⟨⟨hx, hb, hml, hown, hts⟩, hWk⟩ := X
  have hK := hWk.1
  have hP := (hW.1 c0 i hi).1
  rw [he] at hP
  have hap := va_apart (own := own) hts hin ty0 hty hnm hK hc
  obtain ⟨r, h1, cell, q1, q2, q3, q4⟩ := hP
  have hr : r = (C, T, N) := Option.some.inj (h1.symm.trans hc)
  subst hr
  obtain ⟨hSl, hfc, kC, hkC, hkind⟩ := hK.1 ci _ hc
  obtain ⟨cf, kf, fi, f, hi2, hsl⟩ := hSl k hk
  have hlay := hts _ (hin _ (u_in_lay hk))
  unfold u_lay at hlay
  rw [if_neg (by rw [hfin]; decide)] at hlay
  have hst := (u_facts hfc hkC (u_lays hts hin hk) hi2).1
  have h6 := u_store hfc hkC hkind hlay hi2 (hty k hk) hn hfit
  refine W.putK hx hb (f := f) ⟨hown, hts _ hlink, ⟨_, _, _, hi2⟩, hst⟩ (by rw [q2]; exact h6) q1 q3 (by rw [hsl]; exact k2_hasslot (q4 k hk)) rfl rfl hdg fun H' e1 e2 e3 => ?_
  rw [hsl] at e1 ⊢
  refine kk H' _ (hW.wr c0 i hi ?_ e3) (hS.put e2 e3 (hW.1 c0 i hi).2)
  rw [he']
  exact ⟨_, hc, t_OB.to (V := updV (vp_V fs) k v) ⟨_, e1, q2, q3, t_set q4 hap hk v⟩ (fun j _ => vp_updV_set hl v j)⟩
theorem w_puti (X : k_X p m c cc nL s args own G) (hW : Wd G ad nA nK I J H) (hS : va_S (k_A G) s.heap H locs) (c0 i : Nat) (hi : i < k_n nA nK c0) {C : String} {T : u_T} {N ci index : Nat} {fs : List Value} (he : k_ent G ad c0 i (I c0 i) (J c0 i) = .inr (ci, fs)) (hc : vwCl[ci]? = some (C, T, N)) (hin : ∀ w ∈ u_ws C T N, w ∈ GW) (ty0 : Nat → FieldType) (hty : ∀ k, k < N → parseFieldDescriptor (T k).2.2.1 = some (ty0 k)) (hnm : ∀ a, a < N → ∀ b, b < N → a ≠ b → (T a).2.1 ≠ (T b).2.1) (k : Nat) (hk : k < N) (hlink : Cond.fieldLink own index (T k).1 (T k).2.1 (T k).2.2.1 ∈ GW) (hfin : (T k).2.2.2 = false) {x : Int32} (hn : narrow (ty0 k) (.int x) = .int x) (hfit : fits (ty0 k) (.int x) = true) (hl : k < fs.length) (he' : k_ent G ad c0 i (upd (I c0 i) k x) (J c0 i) = .inr (ci, fs.set k (.int x))) (hdg : decode cc pc = .ok (.putfield index, 3))
    (kk : ∀ (H1 : Heap) (locs1 : List Loc), Wd G ad nA nK (k_up I c0 i (upd (I c0 i) k x)) J H1 → va_S (k_A G) s.heap H1 locs1 → W p l e R s m args below meth c H1 locs1 cells slots Q (F0 m (pc + 3) ls rest)) : W p l e R s m args below meth c H locs cells slots Q (F0 m pc ls (.int x :: .ref (ad c0 i) :: rest)) := by
  refine w_put X hW hS c0 i hi he hc hin ty0 hty hnm k hk hlink hfin hn hfit hl he' hdg fun H1 locs1 h1 h2 => ?_
  rw [k_up_id] at h1
  exact kk H1 locs1 h1 h2
theorem w_putl (X : k_X p m c cc nL s args own G) (hW : Wd G ad nA nK I J H) (hS : va_S (k_A G) s.heap H locs) (c0 i : Nat) (hi : i < k_n nA nK c0) {C : String} {T : u_T} {N ci index : Nat} {fs : List Value} (he : k_ent G ad c0 i (I c0 i) (J c0 i) = .inr (ci, fs)) (hc : vwCl[ci]? = some (C, T, N)) (hin : ∀ w ∈ u_ws C T N, w ∈ GW) (ty0 : Nat → FieldType) (hty : ∀ k, k < N → parseFieldDescriptor (T k).2.2.1 = some (ty0 k)) (hnm : ∀ a, a < N → ∀ b, b < N → a ≠ b → (T a).2.1 ≠ (T b).2.1) (k : Nat) (hk : k < N) (hlink : Cond.fieldLink own index (T k).1 (T k).2.1 (T k).2.2.1 ∈ GW) (hfin : (T k).2.2.2 = false) {x : Int64} (hn : narrow (ty0 k) (.long x) = .long x) (hfit : fits (ty0 k) (.long x) = true) (hl : k < fs.length) (he' : k_ent G ad c0 i (I c0 i) (vp_updL (J c0 i) k x) = .inr (ci, fs.set k (.long x))) (hdg : decode cc pc = .ok (.putfield index, 3))
    (kk : ∀ (H1 : Heap) (locs1 : List Loc), Wd G ad nA nK I (k_up J c0 i (vp_updL (J c0 i) k x)) H1 → va_S (k_A G) s.heap H1 locs1 → W p l e R s m args below meth c H1 locs1 cells slots Q (F0 m (pc + 3) ls rest)) : W p l e R s m args below meth c H locs cells slots Q (F0 m pc ls (.long x :: .ref (ad c0 i) :: rest)) := by
  refine w_put X hW hS c0 i hi he hc hin ty0 hty hnm k hk hlink hfin hn hfit hl he' hdg fun H1 locs1 h1 h2 => ?_
  rw [k_up_id] at h1
  exact kk H1 locs1 h1 h2
/-! arrays -/
theorem w_iald (X : k_X p m c cc nL s args own G) (hW : Wd G ad nA nK I J H) (c0 j : Nat) (hj : j < k_n nA nK c0) {n : Nat} {f : Nat → Int32} (he : k_ent G ad c0 j (I c0 j) (J c0 j) = k_ar n (G.2.1 0) f) {i : Int32} (hin : vp_in i n) (hdg : decode cc pc = .ok (.iaload, 1))
    (kk : W p l e R s m args below meth c H locs cells slots Q (F0 m (pc + 1) ls (.int (f i.toNatClampNeg) :: rest))) : W p l e R s m args below meth c H locs cells slots Q (F0 m pc ls (.int i :: .ref (ad c0 j) :: rest)) := by
  have hP := hW.P c0 j hj
  rw [he] at hP
  exact va_iald X.1.1 X.1.2.1 X.2.1 hP 0 0 rfl rfl hin hdg kk
theorem w_zald (X : k_X p m c cc nL s args own G) (hW : Wd G ad nA nK I J H) (c0 j : Nat) (hj : j < k_n nA nK c0) {n : Nat} {f : Nat → Int32} (he : k_ent G ad c0 j (I c0 j) (J c0 j) = k_ar n (G.2.1 2) f) {i : Int32} (hin : vp_in i n) (hdg : decode cc pc = .ok (.baload, 1))
    (kk : W p l e R s m args below meth c H locs cells slots Q (F0 m (pc + 1) ls (.int (f i.toNatClampNeg) :: rest))) : W p l e R s m args below meth c H locs cells slots Q (F0 m pc ls (.int i :: .ref (ad c0 j) :: rest)) := by
  have hP := hW.P c0 j hj
  rw [he] at hP
  exact va_zald X.1.1 X.1.2.1 X.2.1 hP 0 2 rfl rfl hin hdg kk
theorem w_lald (X : k_X p m c cc nL s args own G) (hW : Wd G ad nA nK I J H) (c0 j : Nat) (hj : j < k_n nA nK c0) {n : Nat} {f : Nat → Int64} (he : k_ent G ad c0 j (I c0 j) (J c0 j) = k_al n (G.2.1 1) f) {i : Int32} (hin : vp_in i n) (hdg : decode cc pc = .ok (.laload, 1))
    (kk : W p l e R s m args below meth c H locs cells slots Q (F0 m (pc + 1) ls (.long (f i.toNatClampNeg) :: rest))) : W p l e R s m args below meth c H locs cells slots Q (F0 m pc ls (.int i :: .ref (ad c0 j) :: rest)) := by
  have hP := hW.P c0 j hj
  rw [he] at hP
  exact va_lald X.1.1 X.1.2.1 X.2.1 hP 0 1 rfl rfl hin hdg kk
theorem w_alen (X : k_X p m c cc nL s args own G) (hW : Wd G ad nA nK I J H) (c0 j : Nat) (hj : j < k_n nA nK c0) {cA : ClassId} {x : vp_A} (he : k_ent G ad c0 j (I c0 j) (J c0 j) = .inl (cA, x)) (t0 : Nat) {ty : FieldType} (ht : (k_tys G)[t0]? = some (cA, ty)) {v : Int32} (hv : Int32.ofNat x.1 = v) (hdg : decode cc pc = .ok (.arraylength, 1))
    (kk : W p l e R s m args below meth c H locs cells slots Q (F0 m (pc + 1) ls (.int v :: rest))) : W p l e R s m args below meth c H locs cells slots Q (F0 m pc ls (.ref (ad c0 j) :: rest)) := by
  have hP := hW.P c0 j hj
  rw [he] at hP
  exact va_alen X.1.1 X.1.2.1 X.2.1 hP 0 t0 rfl ht hv hdg kk
theorem w_aald (X : k_X p m c cc nL s args own G) (hW : Wd G ad nA nK I J H) (c0 j : Nat) (hj : j < k_n nA nK c0) {cA : ClassId} {C : String} {n : Nat} {f : Nat → Option Nat} (he : k_ent G ad c0 j (I c0 j) (J c0 j) = .inl (cA, n, .inr (.inr (.inr (.inr f))))) (t0 : Nat) (ht : (k_tys G)[t0]? = some (cA, .object C)) {i : Int32} (hin : vp_in i n) (hdg : decode cc pc = .ok (.aaload, 1))
    (kk : W p l e R s m args below meth c H locs cells slots Q (F0 m (pc + 1) ls (va_rf (f i.toNatClampNeg) :: rest))) : W p l e R s m args below meth c H locs cells slots Q (F0 m pc ls (.int i :: .ref (ad c0 j) :: rest)) := by
  have hP := hW.P c0 j hj
  rw [he] at hP
  exact va_aldq X.1.1 X.1.2.1 X.2.1 hP 0 t0 rfl ht hin hdg kk
theorem w_iast (X : k_X p m c cc nL s args own G) (hW : Wd G ad nA nK I J H) (hS : va_S (k_A G) s.heap H locs) (c0 j : Nat) (hj : j < k_n nA nK c0) {n : Nat} {f : Nat → Int32} (he : k_ent G ad c0 j (I c0 j) (J c0 j) = k_ar n (G.2.1 0) f) {i x : Int32} (hin : vp_in i n) (he' : k_ent G ad c0 j (upd (I c0 j) i.toNatClampNeg x) (J c0 j) = k_ar n (G.2.1 0) (upd f i.toNatClampNeg x)) (hdg : decode cc pc = .ok (.iastore, 1))
    (kk : ∀ (H1 : Heap) (locs1 : List Loc), Wd G ad nA nK (k_up I c0 j (upd (I c0 j) i.toNatClampNeg x)) J H1 → va_S (k_A G) s.heap H1 locs1 → W p l e R s m args below meth c H1 locs1 cells slots Q (F0 m (pc + 1) ls rest)) : W p l e R s m args below meth c H locs cells slots Q (F0 m pc ls (.int x :: .int i :: .ref (ad c0 j) :: rest)) := by
  have hP := (hW.1 c0 j hj).1
  rw [he] at hP
  refine W.iast X.1.1 X.1.2.1 hP ((X.2.1.2 0 _ rfl).1 n (fun j => .int (f j))) (fun q => by cases q) (by show ¬ (i < 0 ∨ (arrV _ _ _).slots.size ≤ _); rw [arrV_size]; exact hin) rfl rfl hdg fun H1 e z oq => ?_
  have h1 := hW.wr c0 j hj (f := upd (I c0 j) i.toNatClampNeg x) (g := J c0 j) (H1 := H1) (by
    rw [he']
    show H1[_]? = some (vp_cell _ _)
    rw [e]
    rw [vp_cell_i, vp_cell_i, arrV_store]
    congr 2
    funext q
    by_cases hq : q = i.toNatClampNeg
    · subst hq
      simp [updV, upd]
    · simp [updV, upd, hq]) oq
  rw [k_up_id] at h1
  exact kk H1 _ h1 (hS.put z oq (hW.1 c0 j hj).2)
theorem w_zast (X : k_X p m c cc nL s args own G) (hW : Wd G ad nA nK I J H) (hS : va_S (k_A G) s.heap H locs) (c0 j : Nat) (hj : j < k_n nA nK c0) {n : Nat} {f : Nat → Int32} (he : k_ent G ad c0 j (I c0 j) (J c0 j) = k_ar n (G.2.1 2) f) {i x : Int32} (hx : vp_nar .boolean x = x) (hin : vp_in i n) (he' : k_ent G ad c0 j (upd (I c0 j) i.toNatClampNeg x) (J c0 j) = k_ar n (G.2.1 2) (upd f i.toNatClampNeg x)) (hdg : decode cc pc = .ok (.bastore, 1))
    (kk : ∀ (H1 : Heap) (locs1 : List Loc), Wd G ad nA nK (k_up I c0 j (upd (I c0 j) i.toNatClampNeg x)) J H1 → va_S (k_A G) s.heap H1 locs1 → W p l e R s m args below meth c H1 locs1 cells slots Q (F0 m (pc + 1) ls rest)) : W p l e R s m args below meth c H locs cells slots Q (F0 m pc ls (.int x :: .int i :: .ref (ad c0 j) :: rest)) := by
  have hP := (hW.1 c0 j hj).1
  rw [he] at hP
  refine W.zast X.1.1 X.1.2.1 hP ((X.2.1.2 2 _ rfl).1 n (fun j => .int (f j))) (fun q => by cases q) (by show ¬ (i < 0 ∨ (arrV _ _ _).slots.size ≤ _); rw [arrV_size]; exact hin) rfl rfl hdg fun H1 e z oq => ?_
  have h1 := hW.wr c0 j hj (f := upd (I c0 j) i.toNatClampNeg x) (g := J c0 j) (H1 := H1) (by
    rw [he']
    show H1[_]? = some (vp_cell _ _)
    rw [e]
    rw [vp_cell_i, vp_cell_i, arrV_store]
    congr 2
    funext q
    by_cases hq : q = i.toNatClampNeg
    · subst hq
      simp only [updV, upd, if_true]
      have h9 : narrow .boolean (.int x) = .int (vp_nar .boolean x) := rfl
      rw [h9, hx]
    · simp [updV, upd, hq]) oq
  rw [k_up_id] at h1
  exact kk H1 _ h1 (hS.put z oq (hW.1 c0 j hj).2)
theorem w_last (X : k_X p m c cc nL s args own G) (hW : Wd G ad nA nK I J H) (hS : va_S (k_A G) s.heap H locs) (c0 j : Nat) (hj : j < k_n nA nK c0) {n : Nat} {f : Nat → Int64} (he : k_ent G ad c0 j (I c0 j) (J c0 j) = k_al n (G.2.1 1) f) {i : Int32} {x : Int64} (hin : vp_in i n) (he' : k_ent G ad c0 j (I c0 j) (vp_updL (J c0 j) i.toNatClampNeg x) = k_al n (G.2.1 1) (vp_updL f i.toNatClampNeg x)) (hdg : decode cc pc = .ok (.lastore, 1))
    (kk : ∀ (H1 : Heap) (locs1 : List Loc), Wd G ad nA nK I (k_up J c0 j (vp_updL (J c0 j) i.toNatClampNeg x)) H1 → va_S (k_A G) s.heap H1 locs1 → W p l e R s m args below meth c H1 locs1 cells slots Q (F0 m (pc + 1) ls rest)) : W p l e R s m args below meth c H locs cells slots Q (F0 m pc ls (.long x :: .int i :: .ref (ad c0 j) :: rest)) := by
  have hP := (hW.1 c0 j hj).1
  rw [he] at hP
  refine W.last X.1.1 X.1.2.1 hP ((X.2.1.2 1 _ rfl).1 n (fun j => .long (f j))) (fun q => by cases q) (by show ¬ (i < 0 ∨ (arrV _ _ _).slots.size ≤ _); rw [arrV_size]; exact hin) rfl rfl hdg fun H1 e z oq => ?_
  have h1 := hW.wr c0 j hj (f := I c0 j) (g := vp_updL (J c0 j) i.toNatClampNeg x) (H1 := H1) (by
    rw [he']
    show H1[_]? = some (vp_cell _ _)
    rw [e]
    rw [vp_cell_l, vp_cell_l, arrV_store]
    congr 2
    funext q
    by_cases hq : q = i.toNatClampNeg
    · subst hq
      simp [updV, vp_updL]
    · simp [updV, vp_updL, hq]) oq
  rw [k_up_id] at h1
  exact kk H1 _ h1 (hS.put z oq (hW.1 c0 j hj).2)
/-! the static array -/
theorem w_gets (X : k_X p m c cc nL s args own G) (hS : va_S (k_A G) s.heap H locs) {index : Nat} (hlink : Cond.fieldLink own index "AnswerKeeper" "ALL_VALUES" "[I" ∈ GW) (hdg : decode cc pc = .ok (.getstatic index, 3))
    (kk : W p l e R s m args below meth c H locs cells slots Q (F0 m (pc + 3) ls (.ref G.2.2.2 :: rest))) : W p l e R s m args below meth c H locs cells slots Q (F0 m pc ls rest) :=
  va_gets X.1.1 X.1.2.1 X.2.2.1 hS X.1.2.2.2.1 (X.1.2.2.2.2 _ hlink) (fun x h => h) hdg kk
theorem w_tlen (X : k_X p m c cc nL s args own G) (hS : va_S (k_A G) s.heap H locs) (hdg : decode cc pc = .ok (.arraylength, 1))
    (kk : W p l e R s m args below meth c H locs cells slots Q (F0 m (pc + 1) ls (.int 3 :: rest))) : W p l e R s m args below meth c H locs cells slots Q (F0 m pc ls (.ref G.2.2.2 :: rest)) :=
  va_tlen X.1.1 X.1.2.1 X.2.2.2.1 hS rfl hdg kk
theorem w_tld (X : k_X p m c cc nL s args own G) (hS : va_S (k_A G) s.heap H locs) {i : Int32} (hin : vp_in i 3) (hdg : decode cc pc = .ok (.iaload, 1))
    (kk : W p l e R s m args below meth c H locs cells slots Q (F0 m (pc + 1) ls (.int (k_allv i.toNatClampNeg) :: rest))) : W p l e R s m args below meth c H locs cells slots Q (F0 m pc ls (.int i :: .ref G.2.2.2 :: rest)) :=
  va_ti X.1.1 X.1.2.1 X.2.2.2.1 hS hin rfl hdg kk
/-! returns -/
theorem w_iret (X : k_X p m c cc nL s args own G) (hr : meth.sig.returnType = some .int) (hlk : meth.locks = false) (hS : va_S (k_A G) s.heap H locs) {B : Heap → Prop} {x v : Int32} (hv : x = v) (hB : B H) (hdg : decode cc pc = .ok (.ireturn, 1)) : W p l e R s m args below meth c H locs cells slots (MQ below (k_Q G (some (.int v)) B) args s cells slots (k_A G)) (F0 m pc ls [.int x]) := by
  subst hv
  exact W.iret X.1.1 X.1.2.1 hr (fun t ht hW => ⟨rfl, by rw [ht]; exact hB, hS.F ht⟩) hS.2.2 hdg hlk
theorem w_zret (X : k_X p m c cc nL s args own G) (hr : meth.sig.returnType = some .boolean) (hlk : meth.locks = false) (hS : va_S (k_A G) s.heap H locs) {B : Heap → Prop} {x v : Int32} (hv : x = v) (hn : narrow .boolean (.int v) = .int v) (hB : B H) (hdg : decode cc pc = .ok (.ireturn, 1)) : W p l e R s m args below meth c H locs cells slots (MQ below (k_Q G (some (.int v)) B) args s cells slots (k_A G)) (F0 m pc ls [.int x]) := by
  subst hv
  exact W.zret X.1.1 X.1.2.1 hr hn (fun t ht hW => ⟨rfl, by rw [ht]; exact hB, hS.F ht⟩) hS.2.2 hdg hlk
theorem w_lret (X : k_X p m c cc nL s args own G) (hr : meth.sig.returnType = some .long) (hlk : meth.locks = false) (hS : va_S (k_A G) s.heap H locs) {B : Heap → Prop} {x v : Int64} (hv : x = v) (hB : B H) (hdg : decode cc pc = .ok (.lreturn, 1)) : W p l e R s m args below meth c H locs cells slots (MQ below (k_Q G (some (.long v)) B) args s cells slots (k_A G)) (F0 m pc ls [.long x]) := by
  subst hv
  exact W.lret X.1.1 X.1.2.1 hr (fun t ht hW => ⟨rfl, by rw [ht]; exact hB, hS.F ht⟩) hS.2.2 hdg hlk
theorem w_vret (X : k_X p m c cc nL s args own G) (hr : meth.sig.returnType = none) (hlk : meth.locks = false) (hS : va_S (k_A G) s.heap H locs) {B : Heap → Prop} (hB : B H) (hdg : decode cc pc = .ok (.return_, 1)) : W p l e R s m args below meth c H locs cells slots (MQ below (k_Q G none B) args s cells slots (k_A G)) (F0 m pc ls []) :=
  W.vret X.1.1 X.1.2.1 hr (fun t ht hW => ⟨rfl, by rw [ht]; exact hB, hS.F ht⟩) hS.2.2 hdg hlk
theorem w_aret (X : k_X p m c cc nL s args own G) {n : String} (hr : meth.sig.returnType = some (.object n)) (hlk : meth.locks = false) (hS : va_S (k_A G) s.heap H locs) {B : Heap → Prop} {x : Value} {r : Option Nat} (hv : x = va_rf r) (hB : B H) (hdg : decode cc pc = .ok (.areturn, 1)) : W p l e R s m args below meth c H locs cells slots (MQ below (k_Q G (some (va_rf r)) B) args s cells slots (k_A G)) (F0 m pc ls [x]) := by
  subst hv
  exact W.aret X.1.1 X.1.2.1 hr (Or.inl ⟨n, rfl⟩) (va_rf_or r) (fun t ht hW => ⟨rfl, by rw [ht]; exact hB, hS.F ht⟩) hS.2.2 hdg hlk
end KW
section KC
variable {p : Program} {l : Launch} {e : Env} {R : Room} {s : State} {m : MethodId} {args : Array Value} {below : List Frame} {meth : Method} {c : Code} {H : Heap} {locs : List Loc} {cells slots : Nat} {Q : State → Prop}
variable {cc bytes : ByteArray} {pc nL maxL index n mc ms : Nat} {ls : Array Slot} {rest st As : List Value} {own : String} {b : Nat}
variable {G : k_G} {y : MethodName} {ret : Option FieldType} {rm : Room} {P B : Heap → Prop} {v : Option Value}
theorem k_goodGW {w : Cond} (h : w ∈ GW) : (w.onTables && w.keeps) = true ∨ ∃ ty, w = .arrayClass ty := good_of_word (GW_good h)
theorem k_blind {av : List Value} : FrameBlind (va_Pc av (fun U => k_Wk G U ∧ P U.heap)) := fun a U g mk q => ⟨q.1, q.2.1.calling a g mk, q.2.2⟩
theorem k_cb (X : k_X p m c cc nL s args own G) (hcode : Cond.code y bytes maxL ret ∈ GW) (hini : Cond.initialized y.cls ∈ GW) (hl : Cond.methodLink own index y ∈ GW) (hd : y.cls ≠ "java/lang/invoke/MethodHandle" ∧ y.cls ≠ "java/lang/invoke/VarHandle" ∧ (parseMethodDescriptor y.desc).map (fun d => d.parameters.length) = some n) (hR : rm.frames + 1 ≤ R.frames ∧ 8 + (maxL + 11) + rm.locals ≤ R.locals) :
    CallB R s args own index y bytes maxL ret (Cond.code y bytes maxL ret :: GW) rm rm.cells rm.slots n :=
  callB_of n X.1.2.2.2.2 (fun w hw => by
    rcases List.mem_cons.mp hw with h | h
    · rw [h]; exact ⟨hcode, k_goodGW hcode⟩
    · exact ⟨h, k_goodGW h⟩) rfl rfl rfl (X.1.2.2.2.2 _ hini) (X.1.2.2.2.2 _ hl) hd hR
theorem k_cn {host : String} (X : k_X p m c cc nL s args own G) (hcode : Cond.code y bytes maxL ret ∈ GW) (hini : Cond.initialized y.cls ∈ GW) (hl : va_Nw (.methodLinkNest own index y host) s) (hd : y.cls ≠ "java/lang/invoke/MethodHandle" ∧ y.cls ≠ "java/lang/invoke/VarHandle" ∧ (parseMethodDescriptor y.desc).map (fun d => d.parameters.length) = some n) (hR : rm.frames + 1 ≤ R.frames ∧ 8 + (maxL + 11) + rm.locals ≤ R.locals) :
    va_CN R s args own index y host bytes maxL ret (Cond.code y bytes maxL ret :: GW) rm rm.cells rm.slots n :=
  va_cnB n X.1.2.2.2.2 (fun w hw => by
    rcases List.mem_cons.mp hw with h | h
    · rw [h]; exact ⟨hcode, k_goodGW hcode⟩
    · exact ⟨h, k_goodGW h⟩) rfl rfl rfl hl (X.1.2.2.2.2 _ hini) hd hR
theorem k_after (hr : va_Run p l e R s m args below meth c H locs cells slots mc ms (F0 m pc ls st) rest ((k_Q G v B) As.toArray) (k_A G)) (hS : va_S (k_A G) s.heap H locs)
    (kk : ∀ (H1 : Heap) (locs1 : List Loc), B H1 → va_S (k_A G) s.heap H1 locs1 → W p l e R s m args below meth c H1 locs1 (cells + mc) (slots + ms) Q (F0 m (pc + 3) ls (v.toList ++ rest))) : W p l e R s m args below meth c H locs cells slots Q (F0 m pc ls st) := by
  intro T hT X
  obtain ⟨v', st₀, t, T', L, h0, X', hL, e1, e2, ⟨hv, hb, hz, hk⟩, st'⟩ := hr T hT X
  cases hv
  rw [h0] at hz hk
  obtain ⟨t2, a1, b1⟩ := kk T'.heap (locs ++ L) (by rw [e1]; exact hb)
    ⟨Nat.le_trans hS.1 (by rw [e1]; exact hz), fun q h1 h2 => by rw [e1, hk q (Nat.lt_of_lt_of_le h1 hS.1) h2]; exact hS.2.1 q h1 h2, fun q hq => by
      rcases List.mem_append.mp hq with h | h
      · exact hS.2.2 q h
      · exact hL q h⟩ T' rfl X'
  exact ⟨t2, st' t2 a1, b1⟩
/-- a call of a method of an object's own class, over a contract -/
theorem w_cV (X : k_X p m c cc nL s args own G) (hS : va_S (k_A G) s.heap H locs) (hM : k_Met l y bytes maxL ret rm G (.ref b :: As) P v B rm.cells rm.slots) (hcode : Cond.code y bytes maxL ret ∈ GW) (hini : Cond.initialized y.cls ∈ GW) (hl : Cond.methodLink own index y ∈ GW) (him : Cond.instanceMethod y ∈ GW) (hsel : Cond.selects y.cls y y ∈ GW) (hd : y.cls ≠ "java/lang/invoke/MethodHandle" ∧ y.cls ≠ "java/lang/invoke/VarHandle" ∧ (parseMethodDescriptor y.desc).map (fun d => d.parameters.length) = some As.length) (hR : rm.frames + 1 ≤ R.frames ∧ 8 + (maxL + 11) + rm.locals ≤ R.locals)
    (hrec : ∃ cellB : Cell, H[b]? = some cellB ∧ cellB.vm.isStatics = false ∧ s.vm.findClass y.cls = some cellB.cls) (hP : P H) (hsize : ls.size = nL) (hstack : st = As.reverse ++ .ref b :: rest) (hcat : (rest.map fun v => v.category).sum ≤ 8) (hdg : decode cc pc = .ok (.invokevirtual index, 3)) (hf : cells + rm.cells ≤ R.cells ∧ slots + rm.slots ≤ R.slots)
    (kk : ∀ (H1 : Heap) (locs1 : List Loc), B H1 → va_S (k_A G) s.heap H1 locs1 → W p l e R s m args below meth c H1 locs1 (cells + rm.cells) (slots + rm.slots) Q (F0 m (pc + 3) ls (v.toList ++ rest))) : W p l e R s m args below meth c H locs cells slots Q (F0 m pc ls st) :=
  k_after (As := .ref b :: As) (va_runV X.1 hM ⟨k_cb X hcode hini hl hd hR, X.1.2.2.2.2 _ him, X.1.2.2.2.2 _ hsel⟩ ⟨k_blind, hrec, fun U hU hW => ⟨rfl, X.2.go hS hU hW, by rw [hU]; exact hP⟩⟩ rfl rfl hsize hstack (lv_room hcat) hdg hf) hS kk
/-- of a static method of the same class (or of any class: its own link) -/
theorem w_cS (X : k_X p m c cc nL s args own G) (hS : va_S (k_A G) s.heap H locs) (hM : k_Met l y bytes maxL ret rm G As P v B rm.cells rm.slots) (hcode : Cond.code y bytes maxL ret ∈ GW) (hini : Cond.initialized y.cls ∈ GW) (hl : Cond.methodLink own index y ∈ GW) (hst : Cond.static y ∈ GW) (hd : y.cls ≠ "java/lang/invoke/MethodHandle" ∧ y.cls ≠ "java/lang/invoke/VarHandle" ∧ (parseMethodDescriptor y.desc).map (fun d => d.parameters.length) = some As.length) (hR : rm.frames + 1 ≤ R.frames ∧ 8 + (maxL + 11) + rm.locals ≤ R.locals)
    (hP : P H) (hsize : ls.size = nL) (hstack : st = As.reverse ++ rest) (hcat : (rest.map fun v => v.category).sum ≤ 8) (hdg : decode cc pc = .ok (.invokestatic index, 3)) (hf : cells + rm.cells ≤ R.cells ∧ slots + rm.slots ≤ R.slots)
    (kk : ∀ (H1 : Heap) (locs1 : List Loc), B H1 → va_S (k_A G) s.heap H1 locs1 → W p l e R s m args below meth c H1 locs1 (cells + rm.cells) (slots + rm.slots) Q (F0 m (pc + 3) ls (v.toList ++ rest))) : W p l e R s m args below meth c H locs cells slots Q (F0 m pc ls st) :=
  k_after (As := As) (va_runS X.1 hM ⟨k_cb X hcode hini hl hd hR, X.1.2.2.2.2 _ hst⟩ ⟨k_blind, fun U hU hW => ⟨rfl, X.2.go hS hU hW, by rw [hU]; exact hP⟩⟩ rfl rfl hsize hstack (lv_room hcat) hdg hf) hS kk
/-- of a nest mate's private static method -/
theorem w_cN {host : String} (X : k_X p m c cc nL s args own G) (hS : va_S (k_A G) s.heap H locs) (hM : k_Met l y bytes maxL ret rm G As P v B rm.cells rm.slots) (hcode : Cond.code y bytes maxL ret ∈ GW) (hini : Cond.initialized y.cls ∈ GW) (hl : va_Nw (.methodLinkNest own index y host) s) (hst : Cond.static y ∈ GW) (hd : y.cls ≠ "java/lang/invoke/MethodHandle" ∧ y.cls ≠ "java/lang/invoke/VarHandle" ∧ (parseMethodDescriptor y.desc).map (fun d => d.parameters.length) = some As.length) (hR : rm.frames + 1 ≤ R.frames ∧ 8 + (maxL + 11) + rm.locals ≤ R.locals)
    (hP : P H) (hsize : ls.size = nL) (hstack : st = As.reverse ++ rest) (hcat : (rest.map fun v => v.category).sum ≤ 8) (hdg : decode cc pc = .ok (.invokestatic index, 3)) (hf : cells + rm.cells ≤ R.cells ∧ slots + rm.slots ≤ R.slots)
    (kk : ∀ (H1 : Heap) (locs1 : List Loc), B H1 → va_S (k_A G) s.heap H1 locs1 → W p l e R s m args below meth c H1 locs1 (cells + rm.cells) (slots + rm.slots) Q (F0 m (pc + 3) ls (v.toList ++ rest))) : W p l e R s m args below meth c H locs cells slots Q (F0 m pc ls st) :=
  k_after (As := As) (va_runSN X.1 hM ⟨k_cn X hcode hini hl hd hR, X.1.2.2.2.2 _ hst, trivial⟩ ⟨k_blind, fun U hU hW => ⟨rfl, X.2.go hS hU hW, by rw [hU]; exact hP⟩⟩ rfl rfl hsize hstack (lv_room hcat) hdg hf) hS kk
/-- of a constructor -/
theorem w_cI (X : k_X p m c cc nL s args own G) (hS : va_S (k_A G) s.heap H locs) (hM : k_Met l y bytes maxL none rm G (.ref b :: As) P v B rm.cells rm.slots) (hcode : Cond.code y bytes maxL none ∈ GW) (hini : Cond.initialized y.cls ∈ GW) (hl : Cond.methodLink own index y ∈ GW) (him : Cond.instanceMethod y ∈ GW) (hy1 : y.name = "<init>") (hd : y.cls ≠ "java/lang/invoke/MethodHandle" ∧ y.cls ≠ "java/lang/invoke/VarHandle" ∧ (parseMethodDescriptor y.desc).map (fun d => d.parameters.length) = some As.length) (hR : rm.frames + 1 ≤ R.frames ∧ 8 + (maxL + 11) + rm.locals ≤ R.locals)
    (hP : P H) (hsize : ls.size = nL) (hstack : st = As.reverse ++ .ref b :: rest) (hcat : (rest.map fun v => v.category).sum ≤ 8) (hdg : decode cc pc = .ok (.invokespecial index, 3)) (hf : cells + rm.cells ≤ R.cells ∧ slots + rm.slots ≤ R.slots)
    (kk : ∀ (H1 : Heap) (locs1 : List Loc), B H1 → va_S (k_A G) s.heap H1 locs1 → W p l e R s m args below meth c H1 locs1 (cells + rm.cells) (slots + rm.slots) Q (F0 m (pc + 3) ls (v.toList ++ rest))) : W p l e R s m args below meth c H locs cells slots Q (F0 m pc ls st) :=
  k_after (As := .ref b :: As) (va_runI X.1 hM ⟨k_cb X hcode hini hl hd hR, hy1, X.1.2.2.2.2 _ him⟩ ⟨k_blind, fun U hU hW => ⟨rfl, X.2.go hS hU hW, by rw [hU]; exact hP⟩⟩ rfl rfl hsize hstack (lv_room hcat) hdg hf) hS kk
theorem w_cIN {host : String} (X : k_X p m c cc nL s args own G) (hS : va_S (k_A G) s.heap H locs) (hM : k_Met l y bytes maxL none rm G (.ref b :: As) P v B rm.cells rm.slots) (hcode : Cond.code y bytes maxL none ∈ GW) (hini : Cond.initialized y.cls ∈ GW) (hl : va_Nw (.methodLinkNest own index y host) s) (him : Cond.instanceMethod y ∈ GW) (hy1 : y.name = "<init>") (hd : y.cls ≠ "java/lang/invoke/MethodHandle" ∧ y.cls ≠ "java/lang/invoke/VarHandle" ∧ (parseMethodDescriptor y.desc).map (fun d => d.parameters.length) = some As.length) (hR : rm.frames + 1 ≤ R.frames ∧ 8 + (maxL + 11) + rm.locals ≤ R.locals)
    (hP : P H) (hsize : ls.size = nL) (hstack : st = As.reverse ++ .ref b :: rest) (hcat : (rest.map fun v => v.category).sum ≤ 8) (hdg : decode cc pc = .ok (.invokespecial index, 3)) (hf : cells + rm.cells ≤ R.cells ∧ slots + rm.slots ≤ R.slots)
    (kk : ∀ (H1 : Heap) (locs1 : List Loc), B H1 → va_S (k_A G) s.heap H1 locs1 → W p l e R s m args below meth c H1 locs1 (cells + rm.cells) (slots + rm.slots) Q (F0 m (pc + 3) ls (v.toList ++ rest))) : W p l e R s m args below meth c H locs cells slots Q (F0 m pc ls st) :=
  k_after (As := .ref b :: As) (va_runIN X.1 hM ⟨k_cn X hcode hini hl hd hR, hy1, X.1.2.2.2.2 _ him⟩ ⟨k_blind, fun U hU hW => ⟨rfl, X.2.go hS hU hW, by rw [hU]; exact hP⟩⟩ rfl rfl hsize hstack (lv_room hcat) hdg hf) hS kk
/-- an object of the world as a receiver -/
theorem k_rec {ad : Nat → Nat → Nat} {nA nK : Nat} {I : k_I} {J : k_J} (X : k_X p m c cc nL s args own G) (hW : Wd G ad nA nK I J H) (c0 i : Nat) (hi : i < k_n nA nK c0) {q : vw_C} {ci : Nat} {fs : List Value} (he : k_ent G ad c0 i (I c0 i) (J c0 i) = .inr (ci, fs)) (hc : vwCl[ci]? = some q) : ∃ cellB : Cell, H[ad c0 i]? = some cellB ∧ cellB.vm.isStatics = false ∧ s.vm.findClass q.1 = some cellB.cls := by
  have hP := hW.P c0 i hi
  rw [he] at hP
  exact va_recv (q0 := 0) X.2.1 hP hc rfl
end KC

/-! booleans as ints -/
def k_b (P : Bool) : Int32 := if P then 1 else 0
theorem k_b_n (P : Bool) : narrow .boolean (.int (k_b P)) = .int (k_b P) := by cases P <;> rfl
theorem k_b_v (P : Bool) : vp_nar .boolean (k_b P) = k_b P := by cases P <;> rfl
theorem k_b_f (P : Bool) : fits .boolean (.int (k_b P)) = true := by cases P <;> rfl
theorem k_b0 {P : Bool} (h : k_b P = 0) : P = false := by cases P with | false => rfl | true => exact absurd h (by decide)
theorem k_b1 {P : Bool} (h : ¬ k_b P = 0) : P = true := by cases P with | false => exact absurd rfl h | true => rfl
section KB
variable {p : Program} {l : Launch} {e : Env} {R : Room} {s : State} {m : MethodId} {args : Array Value} {below : List Frame} {meth : Method} {c : Code} {H : Heap} {locs : List Loc} {cells slots : Nat} {Q : State → Prop}
variable {cc : ByteArray} {pc nL : Nat} {ls : Array Slot} {rest st : List Value} {own : String}
theorem lb_if_eq (hexec : p.tables.exec = Jvm.exec) (hb : c.code = cc) {x : Bool} {off : Int} {tgt : Nat} (hdg : decode cc pc = .ok (.ifCond .eq off, 3)) (ht : (pc : Int) + off = (tgt : Int))
    (kt : x = false → W p l e R s m args below meth c H locs cells slots Q (F0 m tgt ls rest)) (kf : x = true → W p l e R s m args below meth c H locs cells slots Q (F0 m (pc + 3) ls rest)) : W p l e R s m args below meth c H locs cells slots Q (F0 m pc ls (.int (k_b x) :: rest)) :=
  lv_if_eq hexec hb hdg ht (fun h => kt (k_b0 h)) (fun h => kf (k_b1 h))
theorem lb_if_ne (hexec : p.tables.exec = Jvm.exec) (hb : c.code = cc) {x : Bool} {off : Int} {tgt : Nat} (hdg : decode cc pc = .ok (.ifCond .ne off, 3)) (ht : (pc : Int) + off = (tgt : Int))
    (kt : x = true → W p l e R s m args below meth c H locs cells slots Q (F0 m tgt ls rest)) (kf : x = false → W p l e R s m args below meth c H locs cells slots Q (F0 m (pc + 3) ls rest)) : W p l e R s m args below meth c H locs cells slots Q (F0 m pc ls (.int (k_b x) :: rest)) :=
  lv_if_ne hexec hb hdg ht (fun h => kt (k_b1 h)) (fun h => kf (k_b0 h))
end KB
/-! indices -/
theorem k_in_a {x N : Int32} {n : Nat} (h0 : ¬ x < 0) (h1 : ¬ N ≤ x) (hN : N.toInt = n) : vp_in x n := by
  rw [vp_in_iff]
  rw [Int32.lt_iff_toInt_lt] at h0
  rw [Int32.le_iff_toInt_le] at h1
  have : (0 : Int32).toInt = 0 := rfl
  omega
theorem k_in_b {x N : Int32} {n : Nat} (h0 : 0 ≤ x) (h1 : x < N) (hN : N.toInt = n) : vp_in x n := by
  rw [vp_in_iff]
  rw [Int32.lt_iff_toInt_lt] at h1
  rw [Int32.le_iff_toInt_le] at h0
  have : (0 : Int32).toInt = 0 := rfl
  omega
theorem k_lt {a b : Nat} (h : ¬ nI b ≤ nI a) (ha : a < 2 ^ 31) (hb : b < 2 ^ 31) : a < b := by
  rw [nI_leI hb ha] at h
  omega
theorem k_ge {a b : Nat} (h : nI b ≤ nI a) (ha : a < 2 ^ 31) (hb : b < 2 ^ 31) : b ≤ a := (nI_leI hb ha).mp h
