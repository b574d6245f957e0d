/-! the rows in the forms that the walker writes -/
theorem Wd.to {G : k_G} {ad : Nat → Nat → Nat} {nA nK : Nat} {I I' : k_I} {J J' : k_J} {H : Heap} (h : Wd G ad nA nK I J H) (e1 : I = I') (e2 : J = J') : Wd G ad nA nK I' J' H := by subst e1; subst e2; exact h
section KR
variable {p : Program} {l : Launch} {e : Env} {R : Room} {s : State} {m : MethodId} {args : Array Value} {below : List Frame} {meth : Method} {c : Code} {H : Heap} {locs : List Loc} {cells slots : Nat} {Q : State → Prop}
variable {cc bytes : ByteArray} {pc nL maxL index : Nat} {ls : Array Slot} {rest st As : List Value} {own : String} {b : Nat}
variable {G : k_G} {y : MethodName} {ret : Option FieldType} {rm : Room} {P B : Heap → Prop} {v : Value}
variable {ad : Nat → Nat → Nat} {nA nK : Nat} {I : k_I} {J : k_J}
theorem w_cV1 (X : k_X p m c cc nL s args own G) (hS : va_S (k_A G) s.heap H locs) (hM : k_Met l y bytes maxL ret rm G (.ref b :: As) P (some v) B 0 0) (hc : rm.cells = 0) (hs : rm.slots = 0) (hcode : Cond.code y bytes maxL ret ∈ GW) (hini : Cond.initialized y.cls ∈ GW) (hl : Cond.methodLink own index y ∈ GW) (him : Cond.instanceMethod y ∈ GW) (hsel : Cond.selects y.cls y y ∈ GW) (hd : y.cls ≠ "java/lang/invoke/MethodHandle" ∧ y.cls ≠ "java/lang/invoke/VarHandle" ∧ (parseMethodDescriptor y.desc).map (fun d => d.parameters.length) = some As.length) (hR : rm.frames + 1 ≤ R.frames ∧ 8 + (maxL + 11) + rm.locals ≤ R.locals)
    (hrec : ∃ cellB : Cell, H[b]? = some cellB ∧ cellB.vm.isStatics = false ∧ s.vm.findClass y.cls = some cellB.cls) (hP : P H) (hsize : ls.size = nL) (hstack : st = As.reverse ++ .ref b :: rest) (hcat : (rest.map fun v => v.category).sum ≤ 8) (hdg : decode cc pc = .ok (.invokevirtual index, 3)) (hf1 : cells ≤ R.cells) (hf2 : slots ≤ R.slots)
    (kk : ∀ (H1 : Heap) (locs1 : List Loc), B H1 → va_S (k_A G) s.heap H1 locs1 → W p l e R s m args below meth c H1 locs1 cells slots Q (F0 m (pc + 3) ls (v :: rest))) : W p l e R s m args below meth c H locs cells slots Q (F0 m pc ls st) := by
  have hM' : k_Met l y bytes maxL ret rm G (.ref b :: As) P (some v) B rm.cells rm.slots := by rw [hc, hs]; exact hM
  exact w_cV X hS hM' hcode hini hl him hsel hd hR hrec hP hsize hstack hcat hdg ⟨by rw [hc]; exact hf1, by rw [hs]; exact hf2⟩ (fun H1 locs1 h1 h2 => W.cs (by rw [hc]; rfl) (by rw [hs]; rfl) (kk H1 locs1 h1 h2))
theorem w_cVv (X : k_X p m c cc nL s args own G) (hS : va_S (k_A G) s.heap H locs) (hM : k_Met l y bytes maxL ret rm G (.ref b :: As) P none B 0 0) (hc : rm.cells = 0) (hs : rm.slots = 0) (hcode : Cond.code y bytes maxL ret ∈ GW) (hini : Cond.initialized y.cls ∈ GW) (hl : Cond.methodLink own index y ∈ GW) (him : Cond.instanceMethod y ∈ GW) (hsel : Cond.selects y.cls y y ∈ GW) (hd : y.cls ≠ "java/lang/invoke/MethodHandle" ∧ y.cls ≠ "java/lang/invoke/VarHandle" ∧ (parseMethodDescriptor y.desc).map (fun d => d.parameters.length) = some As.length) (hR : rm.frames + 1 ≤ R.frames ∧ 8 + (maxL + 11) + rm.locals ≤ R.locals)
    (hrec : ∃ cellB : Cell, H[b]? = some cellB ∧ cellB.vm.isStatics = false ∧ s.vm.findClass y.cls = some cellB.cls) (hP : P H) (hsize : ls.size = nL) (hstack : st = As.reverse ++ .ref b :: rest) (hcat : (rest.map fun v => v.category).sum ≤ 8) (hdg : decode cc pc = .ok (.invokevirtual index, 3)) (hf1 : cells ≤ R.cells) (hf2 : slots ≤ R.slots)
    (kk : ∀ (H1 : Heap) (locs1 : List Loc), B H1 → va_S (k_A G) s.heap H1 locs1 → W p l e R s m args below meth c H1 locs1 cells slots Q (F0 m (pc + 3) ls rest)) : W p l e R s m args below meth c H locs cells slots Q (F0 m pc ls st) := by
  have hM' : k_Met l y bytes maxL ret rm G (.ref b :: As) P none B rm.cells rm.slots := by rw [hc, hs]; exact hM
  exact w_cV X hS hM' hcode hini hl him hsel hd hR hrec hP hsize hstack hcat hdg ⟨by rw [hc]; exact hf1, by rw [hs]; exact hf2⟩ (fun H1 locs1 h1 h2 => W.cs (by rw [hc]; rfl) (by rw [hs]; rfl) (kk H1 locs1 h1 h2))
theorem w_cS1 (X : k_X p m c cc nL s args own G) (hS : va_S (k_A G) s.heap H locs) (hM : k_Met l y bytes maxL ret rm G As P (some v) B 0 0) (hc : rm.cells = 0) (hs : rm.slots = 0) (hcode : Cond.code y bytes maxL ret ∈ GW) (hini : Cond.initialized y.cls ∈ GW) (hl : Cond.methodLink own index y ∈ GW) (hst : Cond.static y ∈ GW) (hd : y.cls ≠ "java/lang/invoke/MethodHandle" ∧ y.cls ≠ "java/lang/invoke/VarHandle" ∧ (parseMethodDescriptor y.desc).map (fun d => d.parameters.length) = some As.length) (hR : rm.frames + 1 ≤ R.frames ∧ 8 + (maxL + 11) + rm.locals ≤ R.locals)
    (hP : P H) (hsize : ls.size = nL) (hstack : st = As.reverse ++ rest) (hcat : (rest.map fun v => v.category).sum ≤ 8) (hdg : decode cc pc = .ok (.invokestatic index, 3)) (hf1 : cells ≤ R.cells) (hf2 : slots ≤ R.slots)
    (kk : ∀ (H1 : Heap) (locs1 : List Loc), B H1 → va_S (k_A G) s.heap H1 locs1 → W p l e R s m args below meth c H1 locs1 cells slots Q (F0 m (pc + 3) ls (v :: rest))) : W p l e R s m args below meth c H locs cells slots Q (F0 m pc ls st) := by
  have hM' : k_Met l y bytes maxL ret rm G As P (some v) B rm.cells rm.slots := by rw [hc, hs]; exact hM
  exact w_cS X hS hM' hcode hini hl hst hd hR hP hsize hstack hcat hdg ⟨by rw [hc]; exact hf1, by rw [hs]; exact hf2⟩ (fun H1 locs1 h1 h2 => W.cs (by rw [hc]; rfl) (by rw [hs]; rfl) (kk H1 locs1 h1 h2))
theorem w_cN1 {host : String} (X : k_X p m c cc nL s args own G) (hS : va_S (k_A G) s.heap H locs) (hM : k_Met l y bytes maxL ret rm G As P (some v) B 0 0) (hc : rm.cells = 0) (hs : rm.slots = 0) (hcode : Cond.code y bytes maxL ret ∈ GW) (hini : Cond.initialized y.cls ∈ GW) (hl : va_Nw (.methodLinkNest own index y host) s) (hst : Cond.static y ∈ GW) (hd : y.cls ≠ "java/lang/invoke/MethodHandle" ∧ y.cls ≠ "java/lang/invoke/VarHandle" ∧ (parseMethodDescriptor y.desc).map (fun d => d.parameters.length) = some As.length) (hR : rm.frames + 1 ≤ R.frames ∧ 8 + (maxL + 11) + rm.locals ≤ R.locals)
    (hP : P H) (hsize : ls.size = nL) (hstack : st = As.reverse ++ rest) (hcat : (rest.map fun v => v.category).sum ≤ 8) (hdg : decode cc pc = .ok (.invokestatic index, 3)) (hf1 : cells ≤ R.cells) (hf2 : slots ≤ R.slots)
    (kk : ∀ (H1 : Heap) (locs1 : List Loc), B H1 → va_S (k_A G) s.heap H1 locs1 → W p l e R s m args below meth c H1 locs1 cells slots Q (F0 m (pc + 3) ls (v :: rest))) : W p l e R s m args below meth c H locs cells slots Q (F0 m pc ls st) := by
  have hM' : k_Met l y bytes maxL ret rm G As P (some v) B rm.cells rm.slots := by rw [hc, hs]; exact hM
  exact w_cN X hS hM' hcode hini hl hst hd hR hP hsize hstack hcat hdg ⟨by rw [hc]; exact hf1, by rw [hs]; exact hf2⟩ (fun H1 locs1 h1 h2 => W.cs (by rw [hc]; rfl) (by rw [hs]; rfl) (kk H1 locs1 h1 h2))
/-! numbers that are places -/
theorem lw_iaddN {a b : Nat} (hexec : p.tables.exec = Jvm.exec) (hb : c.code = cc) (hdg : decode cc pc = .ok (.iadd, 1)) (k : W p l e R s m args below meth c H locs cells slots Q (F0 m (pc + 1) ls (.int (nI (a + b)) :: rest))) : W p l e R s m args below meth c H locs cells slots Q (F0 m pc ls (.int (nI b) :: .int (nI a) :: rest)) := by
  refine lv_iadd hexec hb hdg ?_
  rw [nI_add]; exact k
theorem lw_imulN {a b : Nat} (hexec : p.tables.exec = Jvm.exec) (hb : c.code = cc) (hdg : decode cc pc = .ok (.imul, 1)) (k : W p l e R s m args below meth c H locs cells slots Q (F0 m (pc + 1) ls (.int (nI (a * b)) :: rest))) : W p l e R s m args below meth c H locs cells slots Q (F0 m pc ls (.int (nI b) :: .int (nI a) :: rest)) := by
  refine lv_imul hexec hb hdg ?_
  rw [pk_mul]; exact k
theorem lw_isubN {a b : Nat} (hab : b ≤ a) (hexec : p.tables.exec = Jvm.exec) (hb : c.code = cc) (hdg : decode cc pc = .ok (.isub, 1)) (k : W p l e R s m args below meth c H locs cells slots Q (F0 m (pc + 1) ls (.int (nI (a - b)) :: rest))) : W p l e R s m args below meth c H locs cells slots Q (F0 m pc ls (.int (nI b) :: .int (nI a) :: rest)) := by
  refine lv_isub hexec hb hdg ?_
  rw [pk_sub hab]; exact k
theorem w_ialdN {i : Nat} (X : k_X p m c cc nL s args own G) (hW : Wd G ad nA nK I J H) (c0 j : Nat) (hj : j < k_n nA nK c0) {n : Nat} {f : Nat → Int32} (he : k_ent G ad c0 j (I c0 j) (J c0 j) = k_ar n (G.2.1 0) f) (hin : i < n ∧ n < 2 ^ 31) (hdg : decode cc pc = .ok (.iaload, 1))
    (kk : W p l e R s m args below meth c H locs cells slots Q (F0 m (pc + 1) ls (.int (f i) :: rest))) : W p l e R s m args below meth c H locs cells slots Q (F0 m pc ls (.int (nI i) :: .ref (ad c0 j) :: rest)) := by
  refine w_iald X hW c0 j hj he (vp_in_nI hin.1 hin.2) hdg ?_
  rw [nI_clamp (Nat.lt_trans hin.1 hin.2)]; exact kk
theorem w_zaldN {i : Nat} (X : k_X p m c cc nL s args own G) (hW : Wd G ad nA nK I J H) (c0 j : Nat) (hj : j < k_n nA nK c0) {n : Nat} {f : Nat → Int32} (he : k_ent G ad c0 j (I c0 j) (J c0 j) = k_ar n (G.2.1 2) f) (hin : i < n ∧ n < 2 ^ 31) (hdg : decode cc pc = .ok (.baload, 1))
    (kk : W p l e R s m args below meth c H locs cells slots Q (F0 m (pc + 1) ls (.int (f i) :: rest))) : W p l e R s m args below meth c H locs cells slots Q (F0 m pc ls (.int (nI i) :: .ref (ad c0 j) :: rest)) := by
  refine w_zald X hW c0 j hj he (vp_in_nI hin.1 hin.2) hdg ?_
  rw [nI_clamp (Nat.lt_trans hin.1 hin.2)]; exact kk
theorem w_laldN {i : Nat} (X : k_X p m c cc nL s args own G) (hW : Wd G ad nA nK I J H) (c0 j : Nat) (hj : j < k_n nA nK c0) {n : Nat} {f : Nat → Int64} (he : k_ent G ad c0 j (I c0 j) (J c0 j) = k_al n (G.2.1 1) f) (hin : i < n ∧ n < 2 ^ 31) (hdg : decode cc pc = .ok (.laload, 1))
    (kk : W p l e R s m args below meth c H locs cells slots Q (F0 m (pc + 1) ls (.long (f i) :: rest))) : W p l e R s m args below meth c H locs cells slots Q (F0 m pc ls (.int (nI i) :: .ref (ad c0 j) :: rest)) := by
  refine w_lald X hW c0 j hj he (vp_in_nI hin.1 hin.2) hdg ?_
  rw [nI_clamp (Nat.lt_trans hin.1 hin.2)]; exact kk
theorem w_iastN {i : Nat} (X : k_X p m c cc nL s args own G) (hW : Wd G ad nA nK I J H) (hS : va_S (k_A G) s.heap H locs) (c0 j : Nat) (hj : j < k_n nA nK c0) {n : Nat} {f : Nat → Int32} (he : k_ent G ad c0 j (I c0 j) (J c0 j) = k_ar n (G.2.1 0) f) {x : Int32} (hin : i < n ∧ n < 2 ^ 31) (he' : k_ent G ad c0 j (upd (I c0 j) i x) (J c0 j) = k_ar n (G.2.1 0) (upd f i x)) (hdg : decode cc pc = .ok (.iastore, 1))
    (kk : ∀ (H1 : Heap) (locs1 : List Loc), Wd G ad nA nK (k_up I c0 j (upd (I c0 j) i x)) J H1 → va_S (k_A G) s.heap H1 locs1 → W p l e R s m args below meth c H1 locs1 cells slots Q (F0 m (pc + 1) ls rest)) : W p l e R s m args below meth c H locs cells slots Q (F0 m pc ls (.int x :: .int (nI i) :: .ref (ad c0 j) :: rest)) := by
  have e := nI_clamp (Nat.lt_trans hin.1 hin.2)
  refine w_iast X hW hS c0 j hj he (vp_in_nI hin.1 hin.2) (by rw [e]; exact he') hdg (fun H1 locs1 h1 h2 => ?_)
  rw [e] at h1
  exact kk H1 locs1 h1 h2
theorem w_zastN {i : Nat} (X : k_X p m c cc nL s args own G) (hW : Wd G ad nA nK I J H) (hS : va_S (k_A G) s.heap H locs) (c0 j : Nat) (hj : j < k_n nA nK c0) {n : Nat} {f : Nat → Int32} (he : k_ent G ad c0 j (I c0 j) (J c0 j) = k_ar n (G.2.1 2) f) {x : Int32} (hx : vp_nar .boolean x = x) (hin : i < n ∧ n < 2 ^ 31) (he' : k_ent G ad c0 j (upd (I c0 j) i x) (J c0 j) = k_ar n (G.2.1 2) (upd f i x)) (hdg : decode cc pc = .ok (.bastore, 1))
    (kk : ∀ (H1 : Heap) (locs1 : List Loc), Wd G ad nA nK (k_up I c0 j (upd (I c0 j) i x)) J H1 → va_S (k_A G) s.heap H1 locs1 → W p l e R s m args below meth c H1 locs1 cells slots Q (F0 m (pc + 1) ls rest)) : W p l e R s m args below meth c H locs cells slots Q (F0 m pc ls (.int x :: .int (nI i) :: .ref (ad c0 j) :: rest)) := by
  have e := nI_clamp (Nat.lt_trans hin.1 hin.2)
  refine w_zast X hW hS c0 j hj he hx (vp_in_nI hin.1 hin.2) (by rw [e]; exact he') hdg (fun H1 locs1 h1 h2 => ?_)
  rw [e] at h1
  exact kk H1 locs1 h1 h2
theorem w_lastN {i : Nat} (X : k_X p m c cc nL s args own G) (hW : Wd G ad nA nK I J H) (hS : va_S (k_A G) s.heap H locs) (c0 j : Nat) (hj : j < k_n nA nK c0) {n : Nat} {f : Nat → Int64} (he : k_ent G ad c0 j (I c0 j) (J c0 j) = k_al n (G.2.1 1) f) {x : Int64} (hin : i < n ∧ n < 2 ^ 31) (he' : k_ent G ad c0 j (I c0 j) (vp_updL (J c0 j) i x) = k_al n (G.2.1 1) (vp_updL f i x)) (hdg : decode cc pc = .ok (.lastore, 1))
    (kk : ∀ (H1 : Heap) (locs1 : List Loc), Wd G ad nA nK I (k_up J c0 j (vp_updL (J c0 j) i x)) H1 → va_S (k_A G) s.heap H1 locs1 → W p l e R s m args below meth c H1 locs1 cells slots Q (F0 m (pc + 1) ls rest)) : W p l e R s m args below meth c H locs cells slots Q (F0 m pc ls (.long x :: .int (nI i) :: .ref (ad c0 j) :: rest)) := by
  have e := nI_clamp (Nat.lt_trans hin.1 hin.2)
  refine w_last X hW hS c0 j hj he (vp_in_nI hin.1 hin.2) (by rw [e]; exact he') hdg (fun H1 locs1 h1 h2 => ?_)
  rw [e] at h1
  exact kk H1 locs1 h1 h2
end KR
/-! loops as functions: n rounds from i on -/
def kLoop {α : Type} (step : Nat → α → α) : Nat → Nat → α → α
  | 0, _, a => a
  | d + 1, i, a => kLoop step d (i + 1) (step i a)
def kAny (q : Nat → Bool) : Nat → Nat → Bool
  | 0, _ => false
  | d + 1, i => q i || kAny q d (i + 1)
def kFind (q : Nat → Bool) : Nat → Nat → Option Nat
  | 0, _ => none
  | d + 1, i => if q i then some i else kFind q d (i + 1)
/-! what the keeper's own counts say -/
def k_S (nA nK : Nat) (I : k_I) : Prop := I 0 0 4 = nI nA ∧ I 0 0 5 = nI nK ∧ nA ≤ 24 ∧ nK ≤ 30 ∧ (∀ j, j < nA → I 6 0 j ≠ 0) ∧ ∀ j, j < nK → I 7 0 j ≠ 0
theorem k_S.up {nA nK : Nat} {I : k_I} (h : k_S nA nK I) (c i : Nat) (f : Nat → Int32) (hc : c ≠ 0 ∧ c ≠ 6 ∧ c ≠ 7) : k_S nA nK (k_up I c i f) := by
  obtain ⟨h1, h2, h3, h4, h5, h6⟩ := h
  refine ⟨?_, ?_, h3, h4, fun j hj => ?_, fun j hj => ?_⟩
  · simpa [k_up, Ne.symm hc.1] using h1
  · simpa [k_up, Ne.symm hc.1] using h2
  · simpa [k_up, Ne.symm hc.2.1] using h5 j hj
  · simpa [k_up, Ne.symm hc.2.2] using h6 j hj
theorem k_S.up0 {nA nK : Nat} {I : k_I} (h : k_S nA nK I) (k : Nat) (x : Int32) (h4' : k ≠ 4) (h5' : k ≠ 5) : k_S nA nK (k_up I 0 0 (upd (I 0 0) k x)) := by
  obtain ⟨h1, h2, h3, h4, h5, h6⟩ := h
  refine ⟨?_, ?_, h3, h4, fun j hj => ?_, fun j hj => ?_⟩
  · simpa [k_up, upd, Ne.symm h4'] using h1
  · simpa [k_up, upd, Ne.symm h5'] using h2
  · simpa [k_up] using h5 j hj
  · simpa [k_up] using h6 j hj
def kAns (n : Nat) (a : Int32) : Option Nat := if a < 0 then none else if nI n ≤ a then none else some a.toNatClampNeg
theorem kAns_b {n i : Nat} {a : Int32} (h : kAns n a = some i) : i < n := by
  unfold kAns at h
  split at h
  · cases h
  · split at h
    · cases h
    · next h0 h1 =>
      cases h
      rw [Int32.lt_iff_toInt_lt] at h0
      rw [Int32.le_iff_toInt_le] at h1
      have z : (0 : Int32).toInt = 0 := rfl
      have e : (a.toNatClampNeg : Int) = a.toInt := by
        unfold Int32.toNatClampNeg
        omega
      by_cases hn : n < 2 ^ 31
      · rw [nI_toInt hn] at h1
        omega
      · have := Int32.toInt_lt a
        omega
theorem kAns_lt {n a : Nat} (h : a < n) (hn : n < 2 ^ 31) : kAns n (nI a) = some a := by
  unfold kAns
  rw [if_neg (nI_pos (by omega)), if_neg (nI_ge h hn), nI_clamp (by omega)]
theorem hd_J13_bitCount_95d88 : yJ13_bitCount_95d88.cls ≠ "java/lang/invoke/MethodHandle" ∧ yJ13_bitCount_95d88.cls ≠ "java/lang/invoke/VarHandle" ∧ (parseMethodDescriptor yJ13_bitCount_95d88.desc).map (fun d => d.parameters.length) = some 1 := by decide +kernel
theorem hd_J6_bitCount_0f7a4 : yJ6_bitCount_0f7a4.cls ≠ "java/lang/invoke/MethodHandle" ∧ yJ6_bitCount_0f7a4.cls ≠ "java/lang/invoke/VarHandle" ∧ (parseMethodDescriptor yJ6_bitCount_0f7a4.desc).map (fun d => d.parameters.length) = some 1 := by decide +kernel
theorem hd_J9_max_7cf53 : yJ9_max_7cf53.cls ≠ "java/lang/invoke/MethodHandle" ∧ yJ9_max_7cf53.cls ≠ "java/lang/invoke/VarHandle" ∧ (parseMethodDescriptor yJ9_max_7cf53.desc).map (fun d => d.parameters.length) = some 2 := by decide +kernel
theorem hd_J9_min_7cf53 : yJ9_min_7cf53.cls ≠ "java/lang/invoke/MethodHandle" ∧ yJ9_min_7cf53.cls ≠ "java/lang/invoke/VarHandle" ∧ (parseMethodDescriptor yJ9_min_7cf53.desc).map (fun d => d.parameters.length) = some 2 := by decide +kernel
theorem hd_X0_clearGathered : yX0_clearGathered.cls ≠ "java/lang/invoke/MethodHandle" ∧ yX0_clearGathered.cls ≠ "java/lang/invoke/VarHandle" ∧ (parseMethodDescriptor yX0_clearGathered.desc).map (fun d => d.parameters.length) = some 0 := by decide +kernel
theorem hd_X0_gather : yX0_gather.cls ≠ "java/lang/invoke/MethodHandle" ∧ yX0_gather.cls ≠ "java/lang/invoke/VarHandle" ∧ (parseMethodDescriptor yX0_gather.desc).map (fun d => d.parameters.length) = some 1 := by decide +kernel
theorem hd_X0_hasValue : yX0_hasValue.cls ≠ "java/lang/invoke/MethodHandle" ∧ yX0_hasValue.cls ≠ "java/lang/invoke/VarHandle" ∧ (parseMethodDescriptor yX0_hasValue.desc).map (fun d => d.parameters.length) = some 2 := by decide +kernel
theorem hd_X0_init : yX0_init.cls ≠ "java/lang/invoke/MethodHandle" ∧ yX0_init.cls ≠ "java/lang/invoke/VarHandle" ∧ (parseMethodDescriptor yX0_init.desc).map (fun d => d.parameters.length) = some 3 := by decide +kernel
theorem hd_X0_isDoubted : yX0_isDoubted.cls ≠ "java/lang/invoke/MethodHandle" ∧ yX0_isDoubted.cls ≠ "java/lang/invoke/VarHandle" ∧ (parseMethodDescriptor yX0_isDoubted.desc).map (fun d => d.parameters.length) = some 0 := by decide +kernel
theorem hd_X0_isMoved : yX0_isMoved.cls ≠ "java/lang/invoke/MethodHandle" ∧ yX0_isMoved.cls ≠ "java/lang/invoke/VarHandle" ∧ (parseMethodDescriptor yX0_isMoved.desc).map (fun d => d.parameters.length) = some 0 := by decide +kernel
theorem hd_X0_kindNow : yX0_kindNow.cls ≠ "java/lang/invoke/MethodHandle" ∧ yX0_kindNow.cls ≠ "java/lang/invoke/VarHandle" ∧ (parseMethodDescriptor yX0_kindNow.desc).map (fun d => d.parameters.length) = some 0 := by decide +kernel
theorem hd_X0_partAt : yX0_partAt.cls ≠ "java/lang/invoke/MethodHandle" ∧ yX0_partAt.cls ≠ "java/lang/invoke/VarHandle" ∧ (parseMethodDescriptor yX0_partAt.desc).map (fun d => d.parameters.length) = some 1 := by decide +kernel
theorem hd_X0_partCount : yX0_partCount.cls ≠ "java/lang/invoke/MethodHandle" ∧ yX0_partCount.cls ≠ "java/lang/invoke/VarHandle" ∧ (parseMethodDescriptor yX0_partCount.desc).map (fun d => d.parameters.length) = some 0 := by decide +kernel
theorem hd_X0_putParts : yX0_putParts.cls ≠ "java/lang/invoke/MethodHandle" ∧ yX0_putParts.cls ≠ "java/lang/invoke/VarHandle" ∧ (parseMethodDescriptor yX0_putParts.desc).map (fun d => d.parameters.length) = some 4 := by decide +kernel
theorem hd_X0_putSets : yX0_putSets.cls ≠ "java/lang/invoke/MethodHandle" ∧ yX0_putSets.cls ≠ "java/lang/invoke/VarHandle" ∧ (parseMethodDescriptor yX0_putSets.desc).map (fun d => d.parameters.length) = some 3 := by decide +kernel
theorem hd_X0_setOf : yX0_setOf.cls ≠ "java/lang/invoke/MethodHandle" ∧ yX0_setOf.cls ≠ "java/lang/invoke/VarHandle" ∧ (parseMethodDescriptor yX0_setOf.desc).map (fun d => d.parameters.length) = some 1 := by decide +kernel
theorem hd_X0_takeAllOf : yX0_takeAllOf.cls ≠ "java/lang/invoke/MethodHandle" ∧ yX0_takeAllOf.cls ≠ "java/lang/invoke/VarHandle" ∧ (parseMethodDescriptor yX0_takeAllOf.desc).map (fun d => d.parameters.length) = some 1 := by decide +kernel
theorem hd_X1_init : yX1_init.cls ≠ "java/lang/invoke/MethodHandle" ∧ yX1_init.cls ≠ "java/lang/invoke/VarHandle" ∧ (parseMethodDescriptor yX1_init.desc).map (fun d => d.parameters.length) = some 4 := by decide +kernel
theorem hd_X1_valueFor : yX1_valueFor.cls ≠ "java/lang/invoke/MethodHandle" ∧ yX1_valueFor.cls ≠ "java/lang/invoke/VarHandle" ∧ (parseMethodDescriptor yX1_valueFor.desc).map (fun d => d.parameters.length) = some 1 := by decide +kernel
theorem hd_X2_foldOf : yX2_foldOf.cls ≠ "java/lang/invoke/MethodHandle" ∧ yX2_foldOf.cls ≠ "java/lang/invoke/VarHandle" ∧ (parseMethodDescriptor yX2_foldOf.desc).map (fun d => d.parameters.length) = some 1 := by decide +kernel
theorem hd_X2_folded : yX2_folded.cls ≠ "java/lang/invoke/MethodHandle" ∧ yX2_folded.cls ≠ "java/lang/invoke/VarHandle" ∧ (parseMethodDescriptor yX2_folded.desc).map (fun d => d.parameters.length) = some 1 := by decide +kernel
theorem hd_X2_init : yX2_init.cls ≠ "java/lang/invoke/MethodHandle" ∧ yX2_init.cls ≠ "java/lang/invoke/VarHandle" ∧ (parseMethodDescriptor yX2_init.desc).map (fun d => d.parameters.length) = some 0 := by decide +kernel
theorem hd_X2_turn : yX2_turn.cls ≠ "java/lang/invoke/MethodHandle" ∧ yX2_turn.cls ≠ "java/lang/invoke/VarHandle" ∧ (parseMethodDescriptor yX2_turn.desc).map (fun d => d.parameters.length) = some 2 := by decide +kernel
theorem hd_X3_change : yX3_change.cls ≠ "java/lang/invoke/MethodHandle" ∧ yX3_change.cls ≠ "java/lang/invoke/VarHandle" ∧ (parseMethodDescriptor yX3_change.desc).map (fun d => d.parameters.length) = some 1 := by decide +kernel
theorem hd_X3_init : yX3_init.cls ≠ "java/lang/invoke/MethodHandle" ∧ yX3_init.cls ≠ "java/lang/invoke/VarHandle" ∧ (parseMethodDescriptor yX3_init.desc).map (fun d => d.parameters.length) = some 0 := by decide +kernel
theorem hd_X3_isChangedSince : yX3_isChangedSince.cls ≠ "java/lang/invoke/MethodHandle" ∧ yX3_isChangedSince.cls ≠ "java/lang/invoke/VarHandle" ∧ (parseMethodDescriptor yX3_isChangedSince.desc).map (fun d => d.parameters.length) = some 2 := by decide +kernel
theorem hd_X3_now : yX3_now.cls ≠ "java/lang/invoke/MethodHandle" ∧ yX3_now.cls ≠ "java/lang/invoke/VarHandle" ∧ (parseMethodDescriptor yX3_now.desc).map (fun d => d.parameters.length) = some 0 := by decide +kernel
theorem hd_X4_allValues : yX4_allValues.cls ≠ "java/lang/invoke/MethodHandle" ∧ yX4_allValues.cls ≠ "java/lang/invoke/VarHandle" ∧ (parseMethodDescriptor yX4_allValues.desc).map (fun d => d.parameters.length) = some 1 := by decide +kernel
theorem hd_X4_answer : yX4_answer.cls ≠ "java/lang/invoke/MethodHandle" ∧ yX4_answer.cls ≠ "java/lang/invoke/VarHandle" ∧ (parseMethodDescriptor yX4_answer.desc).map (fun d => d.parameters.length) = some 5 := by decide +kernel
theorem hd_X4_answerAt : yX4_answerAt.cls ≠ "java/lang/invoke/MethodHandle" ∧ yX4_answerAt.cls ≠ "java/lang/invoke/VarHandle" ∧ (parseMethodDescriptor yX4_answerAt.desc).map (fun d => d.parameters.length) = some 1 := by decide +kernel
theorem hd_X4_areAllPlain : yX4_areAllPlain.cls ≠ "java/lang/invoke/MethodHandle" ∧ yX4_areAllPlain.cls ≠ "java/lang/invoke/VarHandle" ∧ (parseMethodDescriptor yX4_areAllPlain.desc).map (fun d => d.parameters.length) = some 1 := by decide +kernel
theorem hd_X4_areQuarrelling : yX4_areQuarrelling.cls ≠ "java/lang/invoke/MethodHandle" ∧ yX4_areQuarrelling.cls ≠ "java/lang/invoke/VarHandle" ∧ (parseMethodDescriptor yX4_areQuarrelling.desc).map (fun d => d.parameters.length) = some 2 := by decide +kernel
theorem hd_X4_ask : yX4_ask.cls ≠ "java/lang/invoke/MethodHandle" ∧ yX4_ask.cls ≠ "java/lang/invoke/VarHandle" ∧ (parseMethodDescriptor yX4_ask.desc).map (fun d => d.parameters.length) = some 4 := by decide +kernel
theorem hd_X4_askAt : yX4_askAt.cls ≠ "java/lang/invoke/MethodHandle" ∧ yX4_askAt.cls ≠ "java/lang/invoke/VarHandle" ∧ (parseMethodDescriptor yX4_askAt.desc).map (fun d => d.parameters.length) = some 1 := by decide +kernel
theorem hd_X4_asked : yX4_asked.cls ≠ "java/lang/invoke/MethodHandle" ∧ yX4_asked.cls ≠ "java/lang/invoke/VarHandle" ∧ (parseMethodDescriptor yX4_asked.desc).map (fun d => d.parameters.length) = some 2 := by decide +kernel
theorem hd_X4_asksInVain : yX4_asksInVain.cls ≠ "java/lang/invoke/MethodHandle" ∧ yX4_asksInVain.cls ≠ "java/lang/invoke/VarHandle" ∧ (parseMethodDescriptor yX4_asksInVain.desc).map (fun d => d.parameters.length) = some 0 := by decide +kernel
theorem hd_X4_betterCount : yX4_betterCount.cls ≠ "java/lang/invoke/MethodHandle" ∧ yX4_betterCount.cls ≠ "java/lang/invoke/VarHandle" ∧ (parseMethodDescriptor yX4_betterCount.desc).map (fun d => d.parameters.length) = some 2 := by decide +kernel
theorem hd_X4_bind : yX4_bind.cls ≠ "java/lang/invoke/MethodHandle" ∧ yX4_bind.cls ≠ "java/lang/invoke/VarHandle" ∧ (parseMethodDescriptor yX4_bind.desc).map (fun d => d.parameters.length) = some 2 := by decide +kernel
theorem hd_X4_bit : yX4_bit.cls ≠ "java/lang/invoke/MethodHandle" ∧ yX4_bit.cls ≠ "java/lang/invoke/VarHandle" ∧ (parseMethodDescriptor yX4_bit.desc).map (fun d => d.parameters.length) = some 1 := by decide +kernel
theorem hd_X4_changed : yX4_changed.cls ≠ "java/lang/invoke/MethodHandle" ∧ yX4_changed.cls ≠ "java/lang/invoke/VarHandle" ∧ (parseMethodDescriptor yX4_changed.desc).map (fun d => d.parameters.length) = some 1 := by decide +kernel
theorem hd_X4_confirm : yX4_confirm.cls ≠ "java/lang/invoke/MethodHandle" ∧ yX4_confirm.cls ≠ "java/lang/invoke/VarHandle" ∧ (parseMethodDescriptor yX4_confirm.desc).map (fun d => d.parameters.length) = some 1 := by decide +kernel
theorem hd_X4_cost : yX4_cost.cls ≠ "java/lang/invoke/MethodHandle" ∧ yX4_cost.cls ≠ "java/lang/invoke/VarHandle" ∧ (parseMethodDescriptor yX4_cost.desc).map (fun d => d.parameters.length) = some 2 := by decide +kernel
theorem hd_X4_costOf : yX4_costOf.cls ≠ "java/lang/invoke/MethodHandle" ∧ yX4_costOf.cls ≠ "java/lang/invoke/VarHandle" ∧ (parseMethodDescriptor yX4_costOf.desc).map (fun d => d.parameters.length) = some 3 := by decide +kernel
theorem hd_X4_count : yX4_count.cls ≠ "java/lang/invoke/MethodHandle" ∧ yX4_count.cls ≠ "java/lang/invoke/VarHandle" ∧ (parseMethodDescriptor yX4_count.desc).map (fun d => d.parameters.length) = some 1 := by decide +kernel
theorem hd_X4_doubtedCount : yX4_doubtedCount.cls ≠ "java/lang/invoke/MethodHandle" ∧ yX4_doubtedCount.cls ≠ "java/lang/invoke/VarHandle" ∧ (parseMethodDescriptor yX4_doubtedCount.desc).map (fun d => d.parameters.length) = some 0 := by decide +kernel
theorem hd_X4_endOf : yX4_endOf.cls ≠ "java/lang/invoke/MethodHandle" ∧ yX4_endOf.cls ≠ "java/lang/invoke/VarHandle" ∧ (parseMethodDescriptor yX4_endOf.desc).map (fun d => d.parameters.length) = some 1 := by decide +kernel
theorem hd_X4_far : yX4_far.cls ≠ "java/lang/invoke/MethodHandle" ∧ yX4_far.cls ≠ "java/lang/invoke/VarHandle" ∧ (parseMethodDescriptor yX4_far.desc).map (fun d => d.parameters.length) = some 2 := by decide +kernel
theorem hd_X4_findsSome : yX4_findsSome.cls ≠ "java/lang/invoke/MethodHandle" ∧ yX4_findsSome.cls ≠ "java/lang/invoke/VarHandle" ∧ (parseMethodDescriptor yX4_findsSome.desc).map (fun d => d.parameters.length) = some 2 := by decide +kernel
theorem hd_X4_fold : yX4_fold.cls ≠ "java/lang/invoke/MethodHandle" ∧ yX4_fold.cls ≠ "java/lang/invoke/VarHandle" ∧ (parseMethodDescriptor yX4_fold.desc).map (fun d => d.parameters.length) = some 2 := by decide +kernel
theorem hd_X4_found : yX4_found.cls ≠ "java/lang/invoke/MethodHandle" ∧ yX4_found.cls ≠ "java/lang/invoke/VarHandle" ∧ (parseMethodDescriptor yX4_found.desc).map (fun d => d.parameters.length) = some 3 := by decide +kernel
theorem hd_X4_foundAt : yX4_foundAt.cls ≠ "java/lang/invoke/MethodHandle" ∧ yX4_foundAt.cls ≠ "java/lang/invoke/VarHandle" ∧ (parseMethodDescriptor yX4_foundAt.desc).map (fun d => d.parameters.length) = some 2 := by decide +kernel
theorem hd_X4_foundCount : yX4_foundCount.cls ≠ "java/lang/invoke/MethodHandle" ∧ yX4_foundCount.cls ≠ "java/lang/invoke/VarHandle" ∧ (parseMethodDescriptor yX4_foundCount.desc).map (fun d => d.parameters.length) = some 1 := by decide +kernel
theorem hd_X4_heapCount : yX4_heapCount.cls ≠ "java/lang/invoke/MethodHandle" ∧ yX4_heapCount.cls ≠ "java/lang/invoke/VarHandle" ∧ (parseMethodDescriptor yX4_heapCount.desc).map (fun d => d.parameters.length) = some 1 := by decide +kernel
theorem hd_X4_heapFrom : yX4_heapFrom.cls ≠ "java/lang/invoke/MethodHandle" ∧ yX4_heapFrom.cls ≠ "java/lang/invoke/VarHandle" ∧ (parseMethodDescriptor yX4_heapFrom.desc).map (fun d => d.parameters.length) = some 2 := by decide +kernel
theorem hd_X4_heapOf : yX4_heapOf.cls ≠ "java/lang/invoke/MethodHandle" ∧ yX4_heapOf.cls ≠ "java/lang/invoke/VarHandle" ∧ (parseMethodDescriptor yX4_heapOf.desc).map (fun d => d.parameters.length) = some 2 := by decide +kernel
theorem hd_X4_helpFor : yX4_helpFor.cls ≠ "java/lang/invoke/MethodHandle" ∧ yX4_helpFor.cls ≠ "java/lang/invoke/VarHandle" ∧ (parseMethodDescriptor yX4_helpFor.desc).map (fun d => d.parameters.length) = some 1 := by decide +kernel
theorem hd_X4_holds : yX4_holds.cls ≠ "java/lang/invoke/MethodHandle" ∧ yX4_holds.cls ≠ "java/lang/invoke/VarHandle" ∧ (parseMethodDescriptor yX4_holds.desc).map (fun d => d.parameters.length) = some 4 := by decide +kernel
theorem hd_X4_init : yX4_init.cls ≠ "java/lang/invoke/MethodHandle" ∧ yX4_init.cls ≠ "java/lang/invoke/VarHandle" ∧ (parseMethodDescriptor yX4_init.desc).map (fun d => d.parameters.length) = some 0 := by decide +kernel
theorem hd_X4_isAnswer : yX4_isAnswer.cls ≠ "java/lang/invoke/MethodHandle" ∧ yX4_isAnswer.cls ≠ "java/lang/invoke/VarHandle" ∧ (parseMethodDescriptor yX4_isAnswer.desc).map (fun d => d.parameters.length) = some 1 := by decide +kernel
theorem hd_X4_isFit : yX4_isFit.cls ≠ "java/lang/invoke/MethodHandle" ∧ yX4_isFit.cls ≠ "java/lang/invoke/VarHandle" ∧ (parseMethodDescriptor yX4_isFit.desc).map (fun d => d.parameters.length) = some 2 := by decide +kernel
theorem hd_X4_isFound : yX4_isFound.cls ≠ "java/lang/invoke/MethodHandle" ∧ yX4_isFound.cls ≠ "java/lang/invoke/VarHandle" ∧ (parseMethodDescriptor yX4_isFound.desc).map (fun d => d.parameters.length) = some 3 := by decide +kernel
theorem hd_X4_isInside : yX4_isInside.cls ≠ "java/lang/invoke/MethodHandle" ∧ yX4_isInside.cls ≠ "java/lang/invoke/VarHandle" ∧ (parseMethodDescriptor yX4_isInside.desc).map (fun d => d.parameters.length) = some 2 := by decide +kernel
theorem hd_X4_isNearOne : yX4_isNearOne.cls ≠ "java/lang/invoke/MethodHandle" ∧ yX4_isNearOne.cls ≠ "java/lang/invoke/VarHandle" ∧ (parseMethodDescriptor yX4_isNearOne.desc).map (fun d => d.parameters.length) = some 2 := by decide +kernel
theorem hd_X4_isSetOfValues : yX4_isSetOfValues.cls ≠ "java/lang/invoke/MethodHandle" ∧ yX4_isSetOfValues.cls ≠ "java/lang/invoke/VarHandle" ∧ (parseMethodDescriptor yX4_isSetOfValues.desc).map (fun d => d.parameters.length) = some 2 := by decide +kernel
theorem hd_X4_isSetOfWords : yX4_isSetOfWords.cls ≠ "java/lang/invoke/MethodHandle" ∧ yX4_isSetOfWords.cls ≠ "java/lang/invoke/VarHandle" ∧ (parseMethodDescriptor yX4_isSetOfWords.desc).map (fun d => d.parameters.length) = some 1 := by decide +kernel
theorem hd_X4_isValue : yX4_isValue.cls ≠ "java/lang/invoke/MethodHandle" ∧ yX4_isValue.cls ≠ "java/lang/invoke/VarHandle" ∧ (parseMethodDescriptor yX4_isValue.desc).map (fun d => d.parameters.length) = some 2 := by decide +kernel
theorem hd_X4_isValueOrNone : yX4_isValueOrNone.cls ≠ "java/lang/invoke/MethodHandle" ∧ yX4_isValueOrNone.cls ≠ "java/lang/invoke/VarHandle" ∧ (parseMethodDescriptor yX4_isValueOrNone.desc).map (fun d => d.parameters.length) = some 2 := by decide +kernel
theorem hd_X4_isWord : yX4_isWord.cls ≠ "java/lang/invoke/MethodHandle" ∧ yX4_isWord.cls ≠ "java/lang/invoke/VarHandle" ∧ (parseMethodDescriptor yX4_isWord.desc).map (fun d => d.parameters.length) = some 1 := by decide +kernel
theorem hd_X4_join : yX4_join.cls ≠ "java/lang/invoke/MethodHandle" ∧ yX4_join.cls ≠ "java/lang/invoke/VarHandle" ∧ (parseMethodDescriptor yX4_join.desc).map (fun d => d.parameters.length) = some 4 := by decide +kernel
theorem hd_X4_keep : yX4_keep.cls ≠ "java/lang/invoke/MethodHandle" ∧ yX4_keep.cls ≠ "java/lang/invoke/VarHandle" ∧ (parseMethodDescriptor yX4_keep.desc).map (fun d => d.parameters.length) = some 1 := by decide +kernel
theorem hd_X4_kindCount : yX4_kindCount.cls ≠ "java/lang/invoke/MethodHandle" ∧ yX4_kindCount.cls ≠ "java/lang/invoke/VarHandle" ∧ (parseMethodDescriptor yX4_kindCount.desc).map (fun d => d.parameters.length) = some 1 := by decide +kernel
theorem hd_X4_leadOn : yX4_leadOn.cls ≠ "java/lang/invoke/MethodHandle" ∧ yX4_leadOn.cls ≠ "java/lang/invoke/VarHandle" ∧ (parseMethodDescriptor yX4_leadOn.desc).map (fun d => d.parameters.length) = some 2 := by decide +kernel
theorem hd_X4_least : yX4_least.cls ≠ "java/lang/invoke/MethodHandle" ∧ yX4_least.cls ≠ "java/lang/invoke/VarHandle" ∧ (parseMethodDescriptor yX4_least.desc).map (fun d => d.parameters.length) = some 1 := by decide +kernel
theorem hd_X4_likeSets : yX4_likeSets.cls ≠ "java/lang/invoke/MethodHandle" ∧ yX4_likeSets.cls ≠ "java/lang/invoke/VarHandle" ∧ (parseMethodDescriptor yX4_likeSets.desc).map (fun d => d.parameters.length) = some 2 := by decide +kernel
theorem hd_X4_mayMelt : yX4_mayMelt.cls ≠ "java/lang/invoke/MethodHandle" ∧ yX4_mayMelt.cls ≠ "java/lang/invoke/VarHandle" ∧ (parseMethodDescriptor yX4_mayMelt.desc).map (fun d => d.parameters.length) = some 2 := by decide +kernel
theorem hd_X4_melt : yX4_melt.cls ≠ "java/lang/invoke/MethodHandle" ∧ yX4_melt.cls ≠ "java/lang/invoke/VarHandle" ∧ (parseMethodDescriptor yX4_melt.desc).map (fun d => d.parameters.length) = some 2 := by decide +kernel
theorem hd_X4_move : yX4_move.cls ≠ "java/lang/invoke/MethodHandle" ∧ yX4_move.cls ≠ "java/lang/invoke/VarHandle" ∧ (parseMethodDescriptor yX4_move.desc).map (fun d => d.parameters.length) = some 2 := by decide +kernel
theorem hd_X4_partNow : yX4_partNow.cls ≠ "java/lang/invoke/MethodHandle" ∧ yX4_partNow.cls ≠ "java/lang/invoke/VarHandle" ∧ (parseMethodDescriptor yX4_partNow.desc).map (fun d => d.parameters.length) = some 2 := by decide +kernel
theorem hd_X4_quarrel : yX4_quarrel.cls ≠ "java/lang/invoke/MethodHandle" ∧ yX4_quarrel.cls ≠ "java/lang/invoke/VarHandle" ∧ (parseMethodDescriptor yX4_quarrel.desc).map (fun d => d.parameters.length) = some 2 := by decide +kernel
theorem hd_X4_quarrelCount : yX4_quarrelCount.cls ≠ "java/lang/invoke/MethodHandle" ∧ yX4_quarrelCount.cls ≠ "java/lang/invoke/VarHandle" ∧ (parseMethodDescriptor yX4_quarrelCount.desc).map (fun d => d.parameters.length) = some 0 := by decide +kernel
theorem hd_X4_quarrelPart : yX4_quarrelPart.cls ≠ "java/lang/invoke/MethodHandle" ∧ yX4_quarrelPart.cls ≠ "java/lang/invoke/VarHandle" ∧ (parseMethodDescriptor yX4_quarrelPart.desc).map (fun d => d.parameters.length) = some 3 := by decide +kernel
theorem hd_X4_questionOf : yX4_questionOf.cls ≠ "java/lang/invoke/MethodHandle" ∧ yX4_questionOf.cls ≠ "java/lang/invoke/VarHandle" ∧ (parseMethodDescriptor yX4_questionOf.desc).map (fun d => d.parameters.length) = some 2 := by decide +kernel
theorem hd_X4_rule : yX4_rule.cls ≠ "java/lang/invoke/MethodHandle" ∧ yX4_rule.cls ≠ "java/lang/invoke/VarHandle" ∧ (parseMethodDescriptor yX4_rule.desc).map (fun d => d.parameters.length) = some 2 := by decide +kernel
theorem hd_X4_settle : yX4_settle.cls ≠ "java/lang/invoke/MethodHandle" ∧ yX4_settle.cls ≠ "java/lang/invoke/VarHandle" ∧ (parseMethodDescriptor yX4_settle.desc).map (fun d => d.parameters.length) = some 0 := by decide +kernel
theorem hd_X4_settleJoined : yX4_settleJoined.cls ≠ "java/lang/invoke/MethodHandle" ∧ yX4_settleJoined.cls ≠ "java/lang/invoke/VarHandle" ∧ (parseMethodDescriptor yX4_settleJoined.desc).map (fun d => d.parameters.length) = some 1 := by decide +kernel
theorem hd_X4_settlePlain : yX4_settlePlain.cls ≠ "java/lang/invoke/MethodHandle" ∧ yX4_settlePlain.cls ≠ "java/lang/invoke/VarHandle" ∧ (parseMethodDescriptor yX4_settlePlain.desc).map (fun d => d.parameters.length) = some 1 := by decide +kernel
theorem hd_X4_settleUnder : yX4_settleUnder.cls ≠ "java/lang/invoke/MethodHandle" ∧ yX4_settleUnder.cls ≠ "java/lang/invoke/VarHandle" ∧ (parseMethodDescriptor yX4_settleUnder.desc).map (fun d => d.parameters.length) = some 0 := by decide +kernel
theorem hd_X4_told : yX4_told.cls ≠ "java/lang/invoke/MethodHandle" ∧ yX4_told.cls ≠ "java/lang/invoke/VarHandle" ∧ (parseMethodDescriptor yX4_told.desc).map (fun d => d.parameters.length) = some 2 := by decide +kernel
theorem hd_X4_vote : yX4_vote.cls ≠ "java/lang/invoke/MethodHandle" ∧ yX4_vote.cls ≠ "java/lang/invoke/VarHandle" ∧ (parseMethodDescriptor yX4_vote.desc).map (fun d => d.parameters.length) = some 2 := by decide +kernel
theorem hd_X4_widenUnder : yX4_widenUnder.cls ≠ "java/lang/invoke/MethodHandle" ∧ yX4_widenUnder.cls ≠ "java/lang/invoke/VarHandle" ∧ (parseMethodDescriptor yX4_widenUnder.desc).map (fun d => d.parameters.length) = some 1 := by decide +kernel
theorem hd_X4_within : yX4_within.cls ≠ "java/lang/invoke/MethodHandle" ∧ yX4_within.cls ≠ "java/lang/invoke/VarHandle" ∧ (parseMethodDescriptor yX4_within.desc).map (fun d => d.parameters.length) = some 3 := by decide +kernel
theorem hd_X4_words : yX4_words.cls ≠ "java/lang/invoke/MethodHandle" ∧ yX4_words.cls ≠ "java/lang/invoke/VarHandle" ∧ (parseMethodDescriptor yX4_words.desc).map (fun d => d.parameters.length) = some 1 := by decide +kernel
theorem hd_X5_allOf : yX5_allOf.cls ≠ "java/lang/invoke/MethodHandle" ∧ yX5_allOf.cls ≠ "java/lang/invoke/VarHandle" ∧ (parseMethodDescriptor yX5_allOf.desc).map (fun d => d.parameters.length) = some 1 := by decide +kernel
theorem hd_X5_answer : yX5_answer.cls ≠ "java/lang/invoke/MethodHandle" ∧ yX5_answer.cls ≠ "java/lang/invoke/VarHandle" ∧ (parseMethodDescriptor yX5_answer.desc).map (fun d => d.parameters.length) = some 5 := by decide +kernel
theorem hd_X5_ask : yX5_ask.cls ≠ "java/lang/invoke/MethodHandle" ∧ yX5_ask.cls ≠ "java/lang/invoke/VarHandle" ∧ (parseMethodDescriptor yX5_ask.desc).map (fun d => d.parameters.length) = some 4 := by decide +kernel
theorem hd_X5_asked : yX5_asked.cls ≠ "java/lang/invoke/MethodHandle" ∧ yX5_asked.cls ≠ "java/lang/invoke/VarHandle" ∧ (parseMethodDescriptor yX5_asked.desc).map (fun d => d.parameters.length) = some 2 := by decide +kernel
theorem hd_X5_bind : yX5_bind.cls ≠ "java/lang/invoke/MethodHandle" ∧ yX5_bind.cls ≠ "java/lang/invoke/VarHandle" ∧ (parseMethodDescriptor yX5_bind.desc).map (fun d => d.parameters.length) = some 2 := by decide +kernel
theorem hd_X5_changed : yX5_changed.cls ≠ "java/lang/invoke/MethodHandle" ∧ yX5_changed.cls ≠ "java/lang/invoke/VarHandle" ∧ (parseMethodDescriptor yX5_changed.desc).map (fun d => d.parameters.length) = some 1 := by decide +kernel
theorem hd_X5_confirm : yX5_confirm.cls ≠ "java/lang/invoke/MethodHandle" ∧ yX5_confirm.cls ≠ "java/lang/invoke/VarHandle" ∧ (parseMethodDescriptor yX5_confirm.desc).map (fun d => d.parameters.length) = some 1 := by decide +kernel
theorem hd_X5_cost : yX5_cost.cls ≠ "java/lang/invoke/MethodHandle" ∧ yX5_cost.cls ≠ "java/lang/invoke/VarHandle" ∧ (parseMethodDescriptor yX5_cost.desc).map (fun d => d.parameters.length) = some 2 := by decide +kernel
theorem hd_X5_costWith : yX5_costWith.cls ≠ "java/lang/invoke/MethodHandle" ∧ yX5_costWith.cls ≠ "java/lang/invoke/VarHandle" ∧ (parseMethodDescriptor yX5_costWith.desc).map (fun d => d.parameters.length) = some 3 := by decide +kernel
theorem hd_X5_count : yX5_count.cls ≠ "java/lang/invoke/MethodHandle" ∧ yX5_count.cls ≠ "java/lang/invoke/VarHandle" ∧ (parseMethodDescriptor yX5_count.desc).map (fun d => d.parameters.length) = some 1 := by decide +kernel
theorem hd_X5_counted : yX5_counted.cls ≠ "java/lang/invoke/MethodHandle" ∧ yX5_counted.cls ≠ "java/lang/invoke/VarHandle" ∧ (parseMethodDescriptor yX5_counted.desc).map (fun d => d.parameters.length) = some 2 := by decide +kernel
theorem hd_X5_endOf : yX5_endOf.cls ≠ "java/lang/invoke/MethodHandle" ∧ yX5_endOf.cls ≠ "java/lang/invoke/VarHandle" ∧ (parseMethodDescriptor yX5_endOf.desc).map (fun d => d.parameters.length) = some 1 := by decide +kernel
theorem hd_X5_far : yX5_far.cls ≠ "java/lang/invoke/MethodHandle" ∧ yX5_far.cls ≠ "java/lang/invoke/VarHandle" ∧ (parseMethodDescriptor yX5_far.desc).map (fun d => d.parameters.length) = some 2 := by decide +kernel
theorem hd_X5_findHeaps : yX5_findHeaps.cls ≠ "java/lang/invoke/MethodHandle" ∧ yX5_findHeaps.cls ≠ "java/lang/invoke/VarHandle" ∧ (parseMethodDescriptor yX5_findHeaps.desc).map (fun d => d.parameters.length) = some 0 := by decide +kernel
theorem hd_X5_findsWith : yX5_findsWith.cls ≠ "java/lang/invoke/MethodHandle" ∧ yX5_findsWith.cls ≠ "java/lang/invoke/VarHandle" ∧ (parseMethodDescriptor yX5_findsWith.desc).map (fun d => d.parameters.length) = some 2 := by decide +kernel
theorem hd_X5_fold : yX5_fold.cls ≠ "java/lang/invoke/MethodHandle" ∧ yX5_fold.cls ≠ "java/lang/invoke/VarHandle" ∧ (parseMethodDescriptor yX5_fold.desc).map (fun d => d.parameters.length) = some 2 := by decide +kernel
theorem hd_X5_folded : yX5_folded.cls ≠ "java/lang/invoke/MethodHandle" ∧ yX5_folded.cls ≠ "java/lang/invoke/VarHandle" ∧ (parseMethodDescriptor yX5_folded.desc).map (fun d => d.parameters.length) = some 1 := by decide +kernel
theorem hd_X5_found : yX5_found.cls ≠ "java/lang/invoke/MethodHandle" ∧ yX5_found.cls ≠ "java/lang/invoke/VarHandle" ∧ (parseMethodDescriptor yX5_found.desc).map (fun d => d.parameters.length) = some 3 := by decide +kernel
theorem hd_X5_fresh : yX5_fresh.cls ≠ "java/lang/invoke/MethodHandle" ∧ yX5_fresh.cls ≠ "java/lang/invoke/VarHandle" ∧ (parseMethodDescriptor yX5_fresh.desc).map (fun d => d.parameters.length) = some 1 := by decide +kernel
theorem hd_X5_hasPart : yX5_hasPart.cls ≠ "java/lang/invoke/MethodHandle" ∧ yX5_hasPart.cls ≠ "java/lang/invoke/VarHandle" ∧ (parseMethodDescriptor yX5_hasPart.desc).map (fun d => d.parameters.length) = some 2 := by decide +kernel
theorem hd_X5_heapOf : yX5_heapOf.cls ≠ "java/lang/invoke/MethodHandle" ∧ yX5_heapOf.cls ≠ "java/lang/invoke/VarHandle" ∧ (parseMethodDescriptor yX5_heapOf.desc).map (fun d => d.parameters.length) = some 1 := by decide +kernel
theorem hd_X5_helpOf : yX5_helpOf.cls ≠ "java/lang/invoke/MethodHandle" ∧ yX5_helpOf.cls ≠ "java/lang/invoke/VarHandle" ∧ (parseMethodDescriptor yX5_helpOf.desc).map (fun d => d.parameters.length) = some 1 := by decide +kernel
theorem hd_X5_holds : yX5_holds.cls ≠ "java/lang/invoke/MethodHandle" ∧ yX5_holds.cls ≠ "java/lang/invoke/VarHandle" ∧ (parseMethodDescriptor yX5_holds.desc).map (fun d => d.parameters.length) = some 4 := by decide +kernel
theorem hd_X5_in : yX5_in.cls ≠ "java/lang/invoke/MethodHandle" ∧ yX5_in.cls ≠ "java/lang/invoke/VarHandle" ∧ (parseMethodDescriptor yX5_in.desc).map (fun d => d.parameters.length) = some 3 := by decide +kernel
theorem hd_X5_init : yX5_init.cls ≠ "java/lang/invoke/MethodHandle" ∧ yX5_init.cls ≠ "java/lang/invoke/VarHandle" ∧ (parseMethodDescriptor yX5_init.desc).map (fun d => d.parameters.length) = some 0 := by decide +kernel
theorem hd_X5_is : yX5_is.cls ≠ "java/lang/invoke/MethodHandle" ∧ yX5_is.cls ≠ "java/lang/invoke/VarHandle" ∧ (parseMethodDescriptor yX5_is.desc).map (fun d => d.parameters.length) = some 1 := by decide +kernel
theorem hd_X5_isAsk : yX5_isAsk.cls ≠ "java/lang/invoke/MethodHandle" ∧ yX5_isAsk.cls ≠ "java/lang/invoke/VarHandle" ∧ (parseMethodDescriptor yX5_isAsk.desc).map (fun d => d.parameters.length) = some 1 := by decide +kernel
theorem hd_X5_isFit : yX5_isFit.cls ≠ "java/lang/invoke/MethodHandle" ∧ yX5_isFit.cls ≠ "java/lang/invoke/VarHandle" ∧ (parseMethodDescriptor yX5_isFit.desc).map (fun d => d.parameters.length) = some 2 := by decide +kernel
theorem hd_X5_isPlain : yX5_isPlain.cls ≠ "java/lang/invoke/MethodHandle" ∧ yX5_isPlain.cls ≠ "java/lang/invoke/VarHandle" ∧ (parseMethodDescriptor yX5_isPlain.desc).map (fun d => d.parameters.length) = some 1 := by decide +kernel
theorem hd_X5_isValue : yX5_isValue.cls ≠ "java/lang/invoke/MethodHandle" ∧ yX5_isValue.cls ≠ "java/lang/invoke/VarHandle" ∧ (parseMethodDescriptor yX5_isValue.desc).map (fun d => d.parameters.length) = some 2 := by decide +kernel
theorem hd_X5_isWithin : yX5_isWithin.cls ≠ "java/lang/invoke/MethodHandle" ∧ yX5_isWithin.cls ≠ "java/lang/invoke/VarHandle" ∧ (parseMethodDescriptor yX5_isWithin.desc).map (fun d => d.parameters.length) = some 2 := by decide +kernel
theorem hd_X5_join : yX5_join.cls ≠ "java/lang/invoke/MethodHandle" ∧ yX5_join.cls ≠ "java/lang/invoke/VarHandle" ∧ (parseMethodDescriptor yX5_join.desc).map (fun d => d.parameters.length) = some 4 := by decide +kernel
theorem hd_X5_leastOf : yX5_leastOf.cls ≠ "java/lang/invoke/MethodHandle" ∧ yX5_leastOf.cls ≠ "java/lang/invoke/VarHandle" ∧ (parseMethodDescriptor yX5_leastOf.desc).map (fun d => d.parameters.length) = some 1 := by decide +kernel
theorem hd_X5_many : yX5_many.cls ≠ "java/lang/invoke/MethodHandle" ∧ yX5_many.cls ≠ "java/lang/invoke/VarHandle" ∧ (parseMethodDescriptor yX5_many.desc).map (fun d => d.parameters.length) = some 1 := by decide +kernel
theorem hd_X5_melt : yX5_melt.cls ≠ "java/lang/invoke/MethodHandle" ∧ yX5_melt.cls ≠ "java/lang/invoke/VarHandle" ∧ (parseMethodDescriptor yX5_melt.desc).map (fun d => d.parameters.length) = some 2 := by decide +kernel
theorem hd_X5_move : yX5_move.cls ≠ "java/lang/invoke/MethodHandle" ∧ yX5_move.cls ≠ "java/lang/invoke/VarHandle" ∧ (parseMethodDescriptor yX5_move.desc).map (fun d => d.parameters.length) = some 2 := by decide +kernel
theorem hd_X5_partMany : yX5_partMany.cls ≠ "java/lang/invoke/MethodHandle" ∧ yX5_partMany.cls ≠ "java/lang/invoke/VarHandle" ∧ (parseMethodDescriptor yX5_partMany.desc).map (fun d => d.parameters.length) = some 1 := by decide +kernel
theorem hd_X5_quarrel : yX5_quarrel.cls ≠ "java/lang/invoke/MethodHandle" ∧ yX5_quarrel.cls ≠ "java/lang/invoke/VarHandle" ∧ (parseMethodDescriptor yX5_quarrel.desc).map (fun d => d.parameters.length) = some 2 := by decide +kernel
theorem hd_X5_quarrels : yX5_quarrels.cls ≠ "java/lang/invoke/MethodHandle" ∧ yX5_quarrels.cls ≠ "java/lang/invoke/VarHandle" ∧ (parseMethodDescriptor yX5_quarrels.desc).map (fun d => d.parameters.length) = some 2 := by decide +kernel
theorem hd_X5_questionOf : yX5_questionOf.cls ≠ "java/lang/invoke/MethodHandle" ∧ yX5_questionOf.cls ≠ "java/lang/invoke/VarHandle" ∧ (parseMethodDescriptor yX5_questionOf.desc).map (fun d => d.parameters.length) = some 2 := by decide +kernel
theorem hd_X5_rule : yX5_rule.cls ≠ "java/lang/invoke/MethodHandle" ∧ yX5_rule.cls ≠ "java/lang/invoke/VarHandle" ∧ (parseMethodDescriptor yX5_rule.desc).map (fun d => d.parameters.length) = some 2 := by decide +kernel
theorem hd_X5_told : yX5_told.cls ≠ "java/lang/invoke/MethodHandle" ∧ yX5_told.cls ≠ "java/lang/invoke/VarHandle" ∧ (parseMethodDescriptor yX5_told.desc).map (fun d => d.parameters.length) = some 2 := by decide +kernel
theorem hd_X5_vote : yX5_vote.cls ≠ "java/lang/invoke/MethodHandle" ∧ yX5_vote.cls ≠ "java/lang/invoke/VarHandle" ∧ (parseMethodDescriptor yX5_vote.desc).map (fun d => d.parameters.length) = some 2 := by decide +kernel
theorem hd_X5_words : yX5_words.cls ≠ "java/lang/invoke/MethodHandle" ∧ yX5_words.cls ≠ "java/lang/invoke/VarHandle" ∧ (parseMethodDescriptor yX5_words.desc).map (fun d => d.parameters.length) = some 1 := by decide +kernel
theorem hd_X5_work : yX5_work.cls ≠ "java/lang/invoke/MethodHandle" ∧ yX5_work.cls ≠ "java/lang/invoke/VarHandle" ∧ (parseMethodDescriptor yX5_work.desc).map (fun d => d.parameters.length) = some 0 := by decide +kernel
theorem hd_X5_workJoined : yX5_workJoined.cls ≠ "java/lang/invoke/MethodHandle" ∧ yX5_workJoined.cls ≠ "java/lang/invoke/VarHandle" ∧ (parseMethodDescriptor yX5_workJoined.desc).map (fun d => d.parameters.length) = some 1 := by decide +kernel
theorem hd_X5_workPlain : yX5_workPlain.cls ≠ "java/lang/invoke/MethodHandle" ∧ yX5_workPlain.cls ≠ "java/lang/invoke/VarHandle" ∧ (parseMethodDescriptor yX5_workPlain.desc).map (fun d => d.parameters.length) = some 1 := by decide +kernel
theorem k_sw0_13 (x : Int32) : x = 0 ∨ x = 1 ∨ x = 2 ∨ x = 3 ∨ x = 4 ∨ x = 5 ∨ x = 6 ∨ x = 7 ∨ x = 8 ∨ x = 9 ∨ x = 10 ∨ x = 11 ∨ x = 12 ∨ x = 13 ∨ (x.toInt < 0 ∨ 13 < x.toInt) := by
  by_cases h : x.toInt < 0 ∨ 13 < x.toInt
  · exact Or.inr (Or.inr (Or.inr (Or.inr (Or.inr (Or.inr (Or.inr (Or.inr (Or.inr (Or.inr (Or.inr (Or.inr (Or.inr (Or.inr (h))))))))))))))
  · have hx : x.toInt = 0 ∨ x.toInt = 1 ∨ x.toInt = 2 ∨ x.toInt = 3 ∨ x.toInt = 4 ∨ x.toInt = 5 ∨ x.toInt = 6 ∨ x.toInt = 7 ∨ x.toInt = 8 ∨ x.toInt = 9 ∨ x.toInt = 10 ∨ x.toInt = 11 ∨ x.toInt = 12 ∨ x.toInt = 13 := by omega
    rcases hx with h | h | h | h | h | h | h | h | h | h | h | h | h | h
    · exact Or.inl (Int32.toInt_inj.mp (h.trans (by decide)))
    · exact Or.inr (Or.inl (Int32.toInt_inj.mp (h.trans (by decide))))
    · exact Or.inr (Or.inr (Or.inl (Int32.toInt_inj.mp (h.trans (by decide)))))
    · exact Or.inr (Or.inr (Or.inr (Or.inl (Int32.toInt_inj.mp (h.trans (by decide))))))
    · exact Or.inr (Or.inr (Or.inr (Or.inr (Or.inl (Int32.toInt_inj.mp (h.trans (by decide)))))))
    · exact Or.inr (Or.inr (Or.inr (Or.inr (Or.inr (Or.inl (Int32.toInt_inj.mp (h.trans (by decide))))))))
    · exact Or.inr (Or.inr (Or.inr (Or.inr (Or.inr (Or.inr (Or.inl (Int32.toInt_inj.mp (h.trans (by decide)))))))))
    · exact Or.inr (Or.inr (Or.inr (Or.inr (Or.inr (Or.inr (Or.inr (Or.inl (Int32.toInt_inj.mp (h.trans (by decide))))))))))
    · exact Or.inr (Or.inr (Or.inr (Or.inr (Or.inr (Or.inr (Or.inr (Or.inr (Or.inl (Int32.toInt_inj.mp (h.trans (by decide)))))))))))
    · exact Or.inr (Or.inr (Or.inr (Or.inr (Or.inr (Or.inr (Or.inr (Or.inr (Or.inr (Or.inl (Int32.toInt_inj.mp (h.trans (by decide))))))))))))
    · exact Or.inr (Or.inr (Or.inr (Or.inr (Or.inr (Or.inr (Or.inr (Or.inr (Or.inr (Or.inr (Or.inl (Int32.toInt_inj.mp (h.trans (by decide)))))))))))))
    · exact Or.inr (Or.inr (Or.inr (Or.inr (Or.inr (Or.inr (Or.inr (Or.inr (Or.inr (Or.inr (Or.inr (Or.inl (Int32.toInt_inj.mp (h.trans (by decide))))))))))))))
    · exact Or.inr (Or.inr (Or.inr (Or.inr (Or.inr (Or.inr (Or.inr (Or.inr (Or.inr (Or.inr (Or.inr (Or.inr (Or.inl (Int32.toInt_inj.mp (h.trans (by decide)))))))))))))))
    · exact Or.inr (Or.inr (Or.inr (Or.inr (Or.inr (Or.inr (Or.inr (Or.inr (Or.inr (Or.inr (Or.inr (Or.inr (Or.inr (Or.inl (Int32.toInt_inj.mp (h.trans (by decide))))))))))))))))

theorem k_sw0_8 (x : Int32) : x = 0 ∨ x = 1 ∨ x = 2 ∨ x = 3 ∨ x = 4 ∨ x = 5 ∨ x = 6 ∨ x = 7 ∨ x = 8 ∨ (x.toInt < 0 ∨ 8 < x.toInt) := by
  by_cases h : x.toInt < 0 ∨ 8 < x.toInt
  · exact Or.inr (Or.inr (Or.inr (Or.inr (Or.inr (Or.inr (Or.inr (Or.inr (Or.inr (h)))))))))
  · have hx : x.toInt = 0 ∨ x.toInt = 1 ∨ x.toInt = 2 ∨ x.toInt = 3 ∨ x.toInt = 4 ∨ x.toInt = 5 ∨ x.toInt = 6 ∨ x.toInt = 7 ∨ x.toInt = 8 := by omega
    rcases hx with h | h | h | h | h | h | h | h | h
    · exact Or.inl (Int32.toInt_inj.mp (h.trans (by decide)))
    · exact Or.inr (Or.inl (Int32.toInt_inj.mp (h.trans (by decide))))
    · exact Or.inr (Or.inr (Or.inl (Int32.toInt_inj.mp (h.trans (by decide)))))
    · exact Or.inr (Or.inr (Or.inr (Or.inl (Int32.toInt_inj.mp (h.trans (by decide))))))
    · exact Or.inr (Or.inr (Or.inr (Or.inr (Or.inl (Int32.toInt_inj.mp (h.trans (by decide)))))))
    · exact Or.inr (Or.inr (Or.inr (Or.inr (Or.inr (Or.inl (Int32.toInt_inj.mp (h.trans (by decide))))))))
    · exact Or.inr (Or.inr (Or.inr (Or.inr (Or.inr (Or.inr (Or.inl (Int32.toInt_inj.mp (h.trans (by decide)))))))))
    · exact Or.inr (Or.inr (Or.inr (Or.inr (Or.inr (Or.inr (Or.inr (Or.inl (Int32.toInt_inj.mp (h.trans (by decide))))))))))
    · exact Or.inr (Or.inr (Or.inr (Or.inr (Or.inr (Or.inr (Or.inr (Or.inr (Or.inl (Int32.toInt_inj.mp (h.trans (by decide)))))))))))

theorem k_sw0_3 (x : Int32) : x = 0 ∨ x = 1 ∨ x = 2 ∨ x = 3 ∨ (x.toInt < 0 ∨ 3 < x.toInt) := by
  by_cases h : x.toInt < 0 ∨ 3 < x.toInt
  · exact Or.inr (Or.inr (Or.inr (Or.inr (h))))
  · have hx : x.toInt = 0 ∨ x.toInt = 1 ∨ x.toInt = 2 ∨ x.toInt = 3 := by omega
    rcases hx with h | h | h | h
    · exact Or.inl (Int32.toInt_inj.mp (h.trans (by decide)))
    · exact Or.inr (Or.inl (Int32.toInt_inj.mp (h.trans (by decide))))
    · exact Or.inr (Or.inr (Or.inl (Int32.toInt_inj.mp (h.trans (by decide)))))
    · exact Or.inr (Or.inr (Or.inr (Or.inl (Int32.toInt_inj.mp (h.trans (by decide))))))

theorem k_sw0_18 (x : Int32) : x = 0 ∨ x = 1 ∨ x = 2 ∨ x = 3 ∨ x = 4 ∨ x = 5 ∨ x = 6 ∨ x = 7 ∨ x = 8 ∨ x = 9 ∨ x = 10 ∨ x = 11 ∨ x = 12 ∨ x = 13 ∨ x = 14 ∨ x = 15 ∨ x = 16 ∨ x = 17 ∨ x = 18 ∨ (x.toInt < 0 ∨ 18 < x.toInt) := by
  by_cases h : x.toInt < 0 ∨ 18 < x.toInt
  · exact Or.inr (Or.inr (Or.inr (Or.inr (Or.inr (Or.inr (Or.inr (Or.inr (Or.inr (Or.inr (Or.inr (Or.inr (Or.inr (Or.inr (Or.inr (Or.inr (Or.inr (Or.inr (Or.inr (h)))))))))))))))))))
  · have hx : x.toInt = 0 ∨ x.toInt = 1 ∨ x.toInt = 2 ∨ x.toInt = 3 ∨ x.toInt = 4 ∨ x.toInt = 5 ∨ x.toInt = 6 ∨ x.toInt = 7 ∨ x.toInt = 8 ∨ x.toInt = 9 ∨ x.toInt = 10 ∨ x.toInt = 11 ∨ x.toInt = 12 ∨ x.toInt = 13 ∨ x.toInt = 14 ∨ x.toInt = 15 ∨ x.toInt = 16 ∨ x.toInt = 17 ∨ x.toInt = 18 := by omega
    rcases hx with h | h | h | h | h | h | h | h | h | h | h | h | h | h | h | h | h | h | h
    · exact Or.inl (Int32.toInt_inj.mp (h.trans (by decide)))
    · exact Or.inr (Or.inl (Int32.toInt_inj.mp (h.trans (by decide))))
    · exact Or.inr (Or.inr (Or.inl (Int32.toInt_inj.mp (h.trans (by decide)))))
    · exact Or.inr (Or.inr (Or.inr (Or.inl (Int32.toInt_inj.mp (h.trans (by decide))))))
    · exact Or.inr (Or.inr (Or.inr (Or.inr (Or.inl (Int32.toInt_inj.mp (h.trans (by decide)))))))
    · exact Or.inr (Or.inr (Or.inr (Or.inr (Or.inr (Or.inl (Int32.toInt_inj.mp (h.trans (by decide))))))))
    · exact Or.inr (Or.inr (Or.inr (Or.inr (Or.inr (Or.inr (Or.inl (Int32.toInt_inj.mp (h.trans (by decide)))))))))
    · exact Or.inr (Or.inr (Or.inr (Or.inr (Or.inr (Or.inr (Or.inr (Or.inl (Int32.toInt_inj.mp (h.trans (by decide))))))))))
    · exact Or.inr (Or.inr (Or.inr (Or.inr (Or.inr (Or.inr (Or.inr (Or.inr (Or.inl (Int32.toInt_inj.mp (h.trans (by decide)))))))))))
    · exact Or.inr (Or.inr (Or.inr (Or.inr (Or.inr (Or.inr (Or.inr (Or.inr (Or.inr (Or.inl (Int32.toInt_inj.mp (h.trans (by decide))))))))))))
    · exact Or.inr (Or.inr (Or.inr (Or.inr (Or.inr (Or.inr (Or.inr (Or.inr (Or.inr (Or.inr (Or.inl (Int32.toInt_inj.mp (h.trans (by decide)))))))))))))
    · exact Or.inr (Or.inr (Or.inr (Or.inr (Or.inr (Or.inr (Or.inr (Or.inr (Or.inr (Or.inr (Or.inr (Or.inl (Int32.toInt_inj.mp (h.trans (by decide))))))))))))))
    · exact Or.inr (Or.inr (Or.inr (Or.inr (Or.inr (Or.inr (Or.inr (Or.inr (Or.inr (Or.inr (Or.inr (Or.inr (Or.inl (Int32.toInt_inj.mp (h.trans (by decide)))))))))))))))
    · exact Or.inr (Or.inr (Or.inr (Or.inr (Or.inr (Or.inr (Or.inr (Or.inr (Or.inr (Or.inr (Or.inr (Or.inr (Or.inr (Or.inl (Int32.toInt_inj.mp (h.trans (by decide))))))))))))))))
    · exact Or.inr (Or.inr (Or.inr (Or.inr (Or.inr (Or.inr (Or.inr (Or.inr (Or.inr (Or.inr (Or.inr (Or.inr (Or.inr (Or.inr (Or.inl (Int32.toInt_inj.mp (h.trans (by decide)))))))))))))))))
    · exact Or.inr (Or.inr (Or.inr (Or.inr (Or.inr (Or.inr (Or.inr (Or.inr (Or.inr (Or.inr (Or.inr (Or.inr (Or.inr (Or.inr (Or.inr (Or.inl (Int32.toInt_inj.mp (h.trans (by decide))))))))))))))))))
    · exact Or.inr (Or.inr (Or.inr (Or.inr (Or.inr (Or.inr (Or.inr (Or.inr (Or.inr (Or.inr (Or.inr (Or.inr (Or.inr (Or.inr (Or.inr (Or.inr (Or.inl (Int32.toInt_inj.mp (h.trans (by decide)))))))))))))))))))
    · exact Or.inr (Or.inr (Or.inr (Or.inr (Or.inr (Or.inr (Or.inr (Or.inr (Or.inr (Or.inr (Or.inr (Or.inr (Or.inr (Or.inr (Or.inr (Or.inr (Or.inr (Or.inl (Int32.toInt_inj.mp (h.trans (by decide))))))))))))))))))))
    · exact Or.inr (Or.inr (Or.inr (Or.inr (Or.inr (Or.inr (Or.inr (Or.inr (Or.inr (Or.inr (Or.inr (Or.inr (Or.inr (Or.inr (Or.inr (Or.inr (Or.inr (Or.inr (Or.inl (Int32.toInt_inj.mp (h.trans (by decide)))))))))))))))))))))

