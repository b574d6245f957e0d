/-! THE CLAIM OUT OF ONE WALK OF THE LAW'S BODY. Your part is whole_start (and what it stands on); all else here is the same for every law, but numbers. -/
def R_law : String := "AnswerKeeperLaw"
def lw_P (b : Addr) (xs : List Int32) (args : Array Value) (s : State) : Prop := args = #[.ref b] ∧ s.IntsAt b xs ∧ xs.length ≤ 3584 ∧ (Jvm.Cond.and given_1 narrow_1).before args s = true
def lw_Q (_ : Array Value) (s : State) (o : Outcome) (t : State) : Prop := o = .returned (some (.int 1)) ∧ Framed s o t [] 600000 7302250
def lw_Z (below : List Frame) (a : Array Value) (s : State) : State → Prop := fun t => ∃ o, t.status = .running ∧ Ended t below o ∧ lw_Q a s o t
/-- the law's own end, with 1 on the stack, nothing written that was there before, its room as the claim has it -/
theorem lw_ret {p : Program} {l : Launch} {e : Env} {s : State} {m : MethodId} {below : List Frame} {meth : Method} {c : Code} {b : Nat} (hx : p.tables.exec = Jvm.exec) (hb : c.code = code) (hr : meth.sig.returnType = ret) (hlocks : meth.locks = false) {pc : Nat} {H : Heap} {ls : Array Slot} (hdg : decode code pc = .ok (.ireturn, 1)) : W p l e room_1 s m #[Value.ref b] below meth c H [] 600000 7302250 (lw_Z below #[Value.ref b] s) (F0 m pc ls [.int 1]) := by
  intro T hT X
  obtain ⟨fs, hret, hrun, hended, hW, hframe⟩ := X.leave (v := some (.int 1)) (hlocks := hlocks) (fun h => by rw [hr] at h; cases h)
  have hmeth' : T.vm.method? m = some meth := X.method'
  refine ⟨T.setFrames fs, ?_, .returned (some (.int 1)), hrun, hended, rfl, ⟨_, rfl⟩, hW, hframe⟩
  jvm_step X.here [X.here.top, hx, hb, hdg, hmeth', hr, ret, narrow_b1]
  (try refine ⟨rfl, ?_⟩); (try refine ⟨rfl, ?_⟩)
  first | (intro acts; rw [hret _ acts rfl rfl rfl]) | rw [hret _ _ rfl rfl rfl]
  exact Steps.refl _
/-- what holds at the law's entry: the machine, the code, the tables' words (any of lw_tbl by 'hts w (by decide +kernel)'), the script of L ints xs at the cell b, what the Statement gives of the start (any of its parts by flat_of_before) -/
def lw_At (p : Program) (s : State) (m : MethodId) (meth : Method) (c : Code) (b L : Nat) (xs : Nat → Int32) : Prop :=
  p.tables.exec = Jvm.exec ∧ c.code = code ∧ meth.sig.returnType = ret ∧ c.maxLocals = 4 ∧ s.vm.findClass R_law = some m.cls ∧ (∀ w ∈ lw_tbl, w.before #[Value.ref b] s = true) ∧ va_X b L xs s s.heap ∧ b < s.heap.size ∧ meth.locks = false ∧ (Jvm.Cond.and given_1 narrow_1).before #[Value.ref b] s = true

theorem GW_lt {w : Cond} (h : w ∈ GW) : w ∈ lw_tbl := (List.mem_filter.mp h).1
theorem lw_tb {w : Cond} (i : Nat) (h : tables_1[i]? = some w) : w ∈ lw_tbl := List.mem_append_right _ (List.mem_of_getElem? h)
theorem lw_acls {s : State} {args : Array Value} {ty : FieldType} (hr : ∀ C, ty ≠ .object C) (h : (Cond.arrayClass ty).before args s = true) : ∃ cA, ArrOfT s cA ty ∧ va_RA s cA ty := by
  obtain ⟨cA, k, comp, h1, h2, h3⟩ := Cond.arrayClass_spec h
  refine ⟨cA, fun n z => ⟨(fun k h => by cases h), k, h2, comp, h3⟩, ?_⟩
  cases ty with
  | object C => exact absurd rfl (hr C)
  | _ => exact h1
theorem lw_aocls {s : State} {args : Array Value} {C : String} (h : (Cond.arrayOver (.object C)).before args s = true) : ∃ cA, ArrOfT s cA (.object C) ∧ va_RA s cA (.object C) := by
  obtain ⟨comp, cA, k, h1, h2, h3, h4, h5⟩ := Cond.arrayOver_spec h
  exact ⟨cA, fun n z => ⟨(fun k h => by cases h), k, h3, comp, h4⟩, k, comp, h3, h4, h1, h5⟩
set_option maxRecDepth 100000 in
theorem lw_X0 {p : Program} {s : State} {m : MethodId} {meth : Method} {c : Code} {b L : Nat} {xs : Nat → Int32} (C0 : lw_At p s m meth c b L xs) : ∃ G : k_G, G.2.2.1 = s.heap.size ∧ k_X p m c cL_law 4 s #[Value.ref b] "AnswerKeeperLaw" G := by
  obtain ⟨hx, hb, hr, hml, hown, hts, hX, hbl, hlocks, hgv⟩ := C0
  have htg : ∀ w ∈ GW, w.before #[Value.ref b] s = true := fun w h => hts w (GW_lt h)
  obtain ⟨c0, iS0, hK0⟩ := u_known (C := RX0) (T := TX0) (N := 13) (n := 13) htg inG0 (htg _ g181)
  obtain ⟨c1, iS1, hK1⟩ := u_known (C := RX1) (T := TX1) (N := 3) (n := 3) htg inG1 (htg _ g443)
  obtain ⟨c2, iS2, hK2⟩ := u_known (C := RX2) (T := TX2) (N := 1) (n := 1) htg inG2 (htg _ g19)
  obtain ⟨c3, iS3, hK3⟩ := u_known (C := RX3) (T := TX3) (N := 3) (n := 3) htg inG3 (htg _ g30)
  obtain ⟨c4, iS4, hK4⟩ := u_known (C := RX4) (T := TX4) (N := 8) (n := 8) htg inG4 (htg _ g11)
  obtain ⟨c5, iS5, hK5⟩ := u_known (C := RX5) (T := TX5) (N := 25) (n := 25) htg inG5 (htg _ g493)
  obtain ⟨a0, ha0⟩ := lw_acls (ty := .int) (fun C h => by cases h) (htg _ g28)
  obtain ⟨a1, ha1⟩ := lw_acls (ty := .long) (fun C h => by cases h) (htg _ g574)
  obtain ⟨a2, ha2⟩ := lw_acls (ty := .boolean) (fun C h => by cases h) (htg _ g575)
  have o3 := hts _ (lw_tb (w := Cond.arrayOver (.object "AnswerKeeper$Answer")) 46 (by decide +kernel))
  have o4 := hts _ (lw_tb (w := Cond.arrayOver (.object "AnswerKeeper$Ask")) 48 (by decide +kernel))
  obtain ⟨a3, ha3⟩ := lw_aocls o3
  obtain ⟨a4, ha4⟩ := lw_aocls o4
  have hf := flat_of_before _ hgv
  have harr : (Cond.arrayOf (.static "AnswerKeeper" "ALL_VALUES" "[I") .int).before #[Value.ref b] s = true := hf _ (by decide +kernel)
  have hlen : (Cond.eq (.length (.static "AnswerKeeper" "ALL_VALUES" "[I")) (.int 3)).before #[Value.ref b] s = true := hf _ (by decide +kernel)
  have he0 : (Cond.eq (.elem (.static "AnswerKeeper" "ALL_VALUES" "[I") (.int 0)) (.int 255)).before #[Value.ref b] s = true := hf _ (by decide +kernel)
  have he1 : (Cond.eq (.elem (.static "AnswerKeeper" "ALL_VALUES" "[I") (.int 1)) (.int 1023)).before #[Value.ref b] s = true := hf _ (by decide +kernel)
  have he2 : (Cond.eq (.elem (.static "AnswerKeeper" "ALL_VALUES" "[I") (.int 2)) (.int 15)).before #[Value.ref b] s = true := hf _ (by decide +kernel)
  obtain ⟨t, ht, hT⟩ := va_Tof (args := #[Value.ref b]) (s := s) (N := 3) (f := fun j => .int (k_allv j)) (A := fun q => s.heap.size ≤ q) (by decide) harr (Cond.eq_int hlen rfl) (fun j hj => by
    match j, hj with
    | 0, _ => exact Cond.eq_int he0 rfl
    | 1, _ => exact Cond.eq_int he1 rfl
    | 2, _ => exact Cond.eq_int he2 rfl) (fun a ha => Nat.not_le.mpr ha)
  have hZ := va_Zof (A := fun q => s.heap.size ≤ q) (hts _ (lw_tb (w := Cond.laysStatic "AnswerKeeper" "ALL_VALUES" "[I") 144 (by decide +kernel))) (htg _ g1) ht (fun a ha => Nat.not_le.mpr ha)
  have n0 := hts _ (lw_tb (w := k_N0) 31 (by decide +kernel))
  have n1 := hts _ (lw_tb (w := k_N1) 108 (by decide +kernel))
  have n2 := hts _ (lw_tb (w := k_N2) 140 (by decide +kernel))
  have n3 := hts _ (lw_tb (w := k_N3) 353 (by decide +kernel))
  refine ⟨(⟨fun k => if k = 0 then c0 else if k = 1 then c1 else if k = 2 then c2 else if k = 3 then c3 else if k = 4 then c4 else c5, fun k => if k = 0 then iS0 else if k = 1 then iS1 else if k = 2 then iS2 else if k = 3 then iS3 else if k = 4 then iS4 else iS5⟩, fun k => if k = 0 then a0 else if k = 1 then a1 else if k = 2 then a2 else if k = 3 then a3 else a4, s.heap.size, t), rfl, ⟨hx, hb, hml, hown, htg⟩, ⟨fun k q hq => ?_, fun k q hq => ?_⟩, hZ, hT, ⟨va_Nw.of rfl n0, va_Nw.of rfl n1, va_Nw.of rfl n2, va_Nw.of rfl n3⟩, Nat.le_refl _, va_AO.of o3, va_AO.of o4⟩
  · match k, hq with
    | 0, hq => cases hq; exact hK0
    | 1, hq => cases hq; exact hK1
    | 2, hq => cases hq; exact hK2
    | 3, hq => cases hq; exact hK3
    | 4, hq => cases hq; exact hK4
    | 5, hq => cases hq; exact hK5
  · match k, hq with
    | 0, hq => cases hq; exact ha0
    | 1, hq => cases hq; exact ha1
    | 2, hq => cases hq; exact ha2
    | 3, hq => cases hq; exact ha3
    | 4, hq => cases hq; exact ha4
