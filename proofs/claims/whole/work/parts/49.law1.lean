set_option maxHeartbeats 2000000 in
set_option maxRecDepth 100000 in
theorem lw_op0 {RR : Nat → Nat → (Nat → Nat) → k_I → k_J → Prop} (R : k_Rel RR) {p : Program} {l : Launch} {e : Env} {s : State} {m : MethodId} {below : List Frame} {meth : Method} {c : Code} {b L : Nat} {xs : Nat → Int32} {G : k_G} {cells slots i : Nat} {Q : State → Prop} (X : k_X p m c cL_law 4 s #[Value.ref b] "AnswerKeeperLaw" G) (hX : va_X b L xs s s.heap) (hbl : b < s.heap.size) (hG : G.2.2.1 = s.heap.size) (hL : L ≤ 3584) (hi : i + 6 < L) (hc : cells + 3 ≤ 600000) (hs0 : slots + 20 ≤ 7302250) (kk : lw_C RR p l e s m below meth c b G i (cells + 3) (slots + 20) Q 890) : lw_C RR p l e s m below meth c b G i cells slots Q 124 := by
  intro ad nA nK E I J H locs ls hR hW hS hl
  have hx := X.1.1
  have hb := X.1.2.1
  have hs := R.ks hR
  refine lv_aload_n hx hb dL_law_124 rfl (lv_at hl 2 rfl) ?_
  refine lv_aload_n hx hb dL_law_125 rfl (lv_at hl 3 rfl) ?_
  refine lv_iload_n hx hb dL_law_126 rfl (lv_at hl 0 rfl) ?_
  refine lv_iconst (v := 1) hx hb dL_law_127 (by decide) ?_
  refine lw_iaddN (a := i) (b := 1) hx hb dL_law_128 ?_
  refine lw_sld X hX hbl hG hS hL (i := i + 1) (by omega) dL_law_129 ?_
  refine lv_aload_n hx hb dL_law_130 rfl (lv_at hl 3 rfl) ?_
  refine lv_iload_n hx hb dL_law_131 rfl (lv_at hl 0 rfl) ?_
  refine lv_iconst (v := 2) hx hb dL_law_132 (by decide) ?_
  refine lw_iaddN (a := i) (b := 2) hx hb dL_law_133 ?_
  refine lw_sld X hX hbl hG hS hL (i := i + 2) (by omega) dL_law_134 ?_
  have hst := R.fold (nA := nA) (nK := nK) (E := E) (I := I) (J := J) (xs (i + 1)) (xs (i + 2)) hR
  refine w_cV1 X hS (m_X4_fold l G ad nA nK I J (xs (i + 1)) (xs (i + 2)) hs) rfl rfl g77 g1 g74 g75 g76 hd_X4_fold ⟨Nat.le_of_ble_eq_true rfl, Nat.le_of_ble_eq_true rfl⟩ (k_rec X hW 0 0 Nat.zero_lt_one rfl rfl) hW hl.1 rfl (Nat.le_of_ble_eq_true rfl) dL_law_135 (show _ ≤ 600000 by omega) (show _ ≤ 7302250 by omega) (fun H locs hW hS => ?_)
  obtain ⟨cv, ecv⟩ : ∃ z, z = (cFold nA nK (xs (i + 1)) (xs (i + 2)) (I, J)).1 := ⟨_, rfl⟩
  obtain ⟨I1, eI1⟩ : ∃ z, z = (cFold nA nK (xs (i + 1)) (xs (i + 2)) (I, J)).2.1 := ⟨_, rfl⟩
  obtain ⟨J1, eJ1⟩ : ∃ z, z = (cFold nA nK (xs (i + 1)) (xs (i + 2)) (I, J)).2.2 := ⟨_, rfl⟩
  have e12 : (cFold nA nK (xs (i + 1)) (xs (i + 2)) (I, J)).2 = (I1, J1) := by rw [eI1, eJ1]
  rw [e12] at hst
  have hm : m_S nA nK E I1 := hst.1
  obtain ⟨nA1, enA⟩ : ∃ z, z = nA := ⟨_, rfl⟩
  obtain ⟨nK1, enK⟩ : ∃ z, z = nK := ⟨_, rfl⟩
  have hW : Wd G ad nA1 nK1 I1 J1 H := by rw [enA, enK, eI1, eJ1]; exact hW
  rw [← ecv]
  refine lv_aload_n hx hb dL_law_138 rfl (lv_at hl 1 rfl) ?_
  refine lv_aload_n hx hb dL_law_139 rfl (lv_at hl 3 rfl) ?_
  refine lv_iload_n hx hb dL_law_140 rfl (lv_at hl 0 rfl) ?_
  refine lv_iconst (v := 1) hx hb dL_law_141 (by decide) ?_
  refine lw_iaddN (a := i) (b := 1) hx hb dL_law_142 ?_
  refine lw_sld X hX hbl hG hS hL (i := i + 1) (by omega) dL_law_143 ?_
  refine lv_aload_n hx hb dL_law_144 rfl (lv_at hl 3 rfl) ?_
  refine lv_iload_n hx hb dL_law_145 rfl (lv_at hl 0 rfl) ?_
  refine lv_iconst (v := 2) hx hb dL_law_146 (by decide) ?_
  refine lw_iaddN (a := i) (b := 2) hx hb dL_law_147 ?_
  refine lw_sld X hX hbl hG hS hL (i := i + 2) (by omega) dL_law_148 ?_
  refine w_cV1 X hS (m_X5_fold l G ad nA1 nK1 nA nK E I1 J1 (xs (i + 1)) (xs (i + 2)) hm) rfl rfl g579 g4 g576 g577 g578 hd_X5_fold ⟨Nat.le_of_ble_eq_true rfl, Nat.le_of_ble_eq_true rfl⟩ (k_rec X hW 13 0 Nat.zero_lt_one rfl rfl) hW hl.1 rfl (Nat.le_of_ble_eq_true rfl) dL_law_149 (show _ ≤ 600000 by omega) (show _ ≤ 7302250 by omega) (fun H locs hW hS => ?_)
  obtain ⟨_, hv, E1, hR1⟩ := hst
  refine lv_icmp_eq (tgt := 890) hx hb dL_law_152 (by decide) (fun _ => ?_) (fun c_ => absurd (by rw [ecv, hv]) c_)
  refine W.widen (k := cells + 3) (n := slots + 20) (by omega) (by omega) ?_
  exact kk ad _ _ E1 _ _ H locs ls hR1 (hW.to3 enA enK rfl rfl) hS hl
set_option maxHeartbeats 2000000 in
set_option maxRecDepth 100000 in
theorem lw_op1 {RR : Nat → Nat → (Nat → Nat) → k_I → k_J → Prop} (R : k_Rel RR) {p : Program} {l : Launch} {e : Env} {s : State} {m : MethodId} {below : List Frame} {meth : Method} {c : Code} {b L : Nat} {xs : Nat → Int32} {G : k_G} {cells slots i : Nat} {Q : State → Prop} (X : k_X p m c cL_law 4 s #[Value.ref b] "AnswerKeeperLaw" G) (hX : va_X b L xs s s.heap) (hbl : b < s.heap.size) (hG : G.2.2.1 = s.heap.size) (hL : L ≤ 3584) (hi : i + 6 < L) (hc : cells + 3 ≤ 600000) (hs0 : slots + 20 ≤ 7302250) (kk : lw_C RR p l e s m below meth c b G i (cells + 3) (slots + 20) Q 890) : lw_C RR p l e s m below meth c b G i cells slots Q 157 := by
  intro ad nA nK E I J H locs ls hR hW hS hl
  have hx := X.1.1
  have hb := X.1.2.1
  have hs := R.ks hR
  refine lv_aload_n hx hb dL_law_157 rfl (lv_at hl 2 rfl) ?_
  refine lv_aload_n hx hb dL_law_158 rfl (lv_at hl 3 rfl) ?_
  refine lv_iload_n hx hb dL_law_159 rfl (lv_at hl 0 rfl) ?_
  refine lv_iconst (v := 1) hx hb dL_law_160 (by decide) ?_
  refine lw_iaddN (a := i) (b := 1) hx hb dL_law_161 ?_
  refine lw_sld X hX hbl hG hS hL (i := i + 1) (by omega) dL_law_162 ?_
  have hst := R.changed (nA := nA) (nK := nK) (E := E) (I := I) (J := J) (xs (i + 1)) hR
  refine w_cV1 X hS (m_X4_changed l G ad nA nK I J (xs (i + 1)) hs) rfl rfl g160 g1 g157 g158 g159 hd_X4_changed ⟨Nat.le_of_ble_eq_true rfl, Nat.le_of_ble_eq_true rfl⟩ (k_rec X hW 0 0 Nat.zero_lt_one rfl rfl) hW hl.1 rfl (Nat.le_of_ble_eq_true rfl) dL_law_163 (show _ ≤ 600000 by omega) (show _ ≤ 7302250 by omega) (fun H locs hW hS => ?_)
  obtain ⟨cv, ecv⟩ : ∃ z, z = (cChanged nA nK (xs (i + 1)) (I, J)).1 := ⟨_, rfl⟩
  obtain ⟨I1, eI1⟩ : ∃ z, z = (cChanged nA nK (xs (i + 1)) (I, J)).2.1 := ⟨_, rfl⟩
  obtain ⟨J1, eJ1⟩ : ∃ z, z = (cChanged nA nK (xs (i + 1)) (I, J)).2.2 := ⟨_, rfl⟩
  have e12 : (cChanged nA nK (xs (i + 1)) (I, J)).2 = (I1, J1) := by rw [eI1, eJ1]
  rw [e12] at hst
  have hm : m_S nA nK E I1 := hst.1
  obtain ⟨nA1, enA⟩ : ∃ z, z = nA := ⟨_, rfl⟩
  obtain ⟨nK1, enK⟩ : ∃ z, z = nK := ⟨_, rfl⟩
  have hW : Wd G ad nA1 nK1 I1 J1 H := by rw [enA, enK, eI1, eJ1]; exact hW
  rw [← ecv]
  refine lv_aload_n hx hb dL_law_166 rfl (lv_at hl 1 rfl) ?_
  refine lv_aload_n hx hb dL_law_167 rfl (lv_at hl 3 rfl) ?_
  refine lv_iload_n hx hb dL_law_168 rfl (lv_at hl 0 rfl) ?_
  refine lv_iconst (v := 1) hx hb dL_law_169 (by decide) ?_
  refine lw_iaddN (a := i) (b := 1) hx hb dL_law_170 ?_
  refine lw_sld X hX hbl hG hS hL (i := i + 1) (by omega) dL_law_171 ?_
  refine w_cV1 X hS (m_X5_changed l G ad nA1 nK1 nA nK E I1 J1 (xs (i + 1)) hm) rfl rfl g587 g4 g584 g585 g586 hd_X5_changed ⟨Nat.le_of_ble_eq_true rfl, Nat.le_of_ble_eq_true rfl⟩ (k_rec X hW 13 0 Nat.zero_lt_one rfl rfl) hW hl.1 rfl (Nat.le_of_ble_eq_true rfl) dL_law_172 (show _ ≤ 600000 by omega) (show _ ≤ 7302250 by omega) (fun H locs hW hS => ?_)
  obtain ⟨_, hv, E1, hR1⟩ := hst
  refine lv_icmp_eq (tgt := 890) hx hb dL_law_175 (by decide) (fun _ => ?_) (fun c_ => absurd (by rw [ecv, hv]) c_)
  refine W.widen (k := cells + 3) (n := slots + 20) (by omega) (by omega) ?_
  exact kk ad _ _ E1 _ _ H locs ls hR1 (hW.to3 enA enK rfl rfl) hS hl
set_option maxHeartbeats 2000000 in
set_option maxRecDepth 100000 in
theorem lw_op2 {RR : Nat → Nat → (Nat → Nat) → k_I → k_J → Prop} (R : k_Rel RR) {p : Program} {l : Launch} {e : Env} {s : State} {m : MethodId} {below : List Frame} {meth : Method} {c : Code} {b L : Nat} {xs : Nat → Int32} {G : k_G} {cells slots i : Nat} {Q : State → Prop} (X : k_X p m c cL_law 4 s #[Value.ref b] "AnswerKeeperLaw" G) (hX : va_X b L xs s s.heap) (hbl : b < s.heap.size) (hG : G.2.2.1 = s.heap.size) (hL : L ≤ 3584) (hi : i + 6 < L) (hc : cells + 3 ≤ 600000) (hs0 : slots + 20 ≤ 7302250) (kk : lw_C RR p l e s m below meth c b G i (cells + 3) (slots + 20) Q 890) : lw_C RR p l e s m below meth c b G i cells slots Q 180 := by
  intro ad nA nK E I J H locs ls hR hW hS hl
  have hx := X.1.1
  have hb := X.1.2.1
  have hs := R.ks hR
  refine lv_aload_n hx hb dL_law_180 rfl (lv_at hl 2 rfl) ?_
  refine lv_aload_n hx hb dL_law_181 rfl (lv_at hl 3 rfl) ?_
  refine lv_iload_n hx hb dL_law_182 rfl (lv_at hl 0 rfl) ?_
  refine lv_iconst (v := 1) hx hb dL_law_183 (by decide) ?_
  refine lw_iaddN (a := i) (b := 1) hx hb dL_law_184 ?_
  refine lw_sld X hX hbl hG hS hL (i := i + 1) (by omega) dL_law_185 ?_
  refine lv_aload_n hx hb dL_law_186 rfl (lv_at hl 3 rfl) ?_
  refine lv_iload_n hx hb dL_law_187 rfl (lv_at hl 0 rfl) ?_
  refine lv_iconst (v := 2) hx hb dL_law_188 (by decide) ?_
  refine lw_iaddN (a := i) (b := 2) hx hb dL_law_189 ?_
  refine lw_sld X hX hbl hG hS hL (i := i + 2) (by omega) dL_law_190 ?_
  have hst := R.rule (nA := nA) (nK := nK) (E := E) (I := I) (J := J) (xs (i + 1)) (xs (i + 2)) hR
  refine w_cV1 X hS (m_X4_rule l G ad nA nK I J (xs (i + 1)) (xs (i + 2)) hs) rfl rfl g168 g1 g165 g166 g167 hd_X4_rule ⟨Nat.le_of_ble_eq_true rfl, Nat.le_of_ble_eq_true rfl⟩ (k_rec X hW 0 0 Nat.zero_lt_one rfl rfl) hW hl.1 rfl (Nat.le_of_ble_eq_true rfl) dL_law_191 (show _ ≤ 600000 by omega) (show _ ≤ 7302250 by omega) (fun H locs hW hS => ?_)
  obtain ⟨cv, ecv⟩ : ∃ z, z = (cRule (xs (i + 1)) (xs (i + 2)) (I, J)).1 := ⟨_, rfl⟩
  obtain ⟨I1, eI1⟩ : ∃ z, z = (cRule (xs (i + 1)) (xs (i + 2)) (I, J)).2.1 := ⟨_, rfl⟩
  obtain ⟨J1, eJ1⟩ : ∃ z, z = (cRule (xs (i + 1)) (xs (i + 2)) (I, J)).2.2 := ⟨_, rfl⟩
  have e12 : (cRule (xs (i + 1)) (xs (i + 2)) (I, J)).2 = (I1, J1) := by rw [eI1, eJ1]
  rw [e12] at hst
  have hm : m_S nA nK E I1 := hst.1
  obtain ⟨nA1, enA⟩ : ∃ z, z = nA := ⟨_, rfl⟩
  obtain ⟨nK1, enK⟩ : ∃ z, z = nK := ⟨_, rfl⟩
  have hW : Wd G ad nA1 nK1 I1 J1 H := by rw [enA, enK, eI1, eJ1]; exact hW
  rw [← ecv]
  refine lv_aload_n hx hb dL_law_194 rfl (lv_at hl 1 rfl) ?_
  refine lv_aload_n hx hb dL_law_195 rfl (lv_at hl 3 rfl) ?_
  refine lv_iload_n hx hb dL_law_196 rfl (lv_at hl 0 rfl) ?_
  refine lv_iconst (v := 1) hx hb dL_law_197 (by decide) ?_
  refine lw_iaddN (a := i) (b := 1) hx hb dL_law_198 ?_
  refine lw_sld X hX hbl hG hS hL (i := i + 1) (by omega) dL_law_199 ?_
  refine lv_aload_n hx hb dL_law_200 rfl (lv_at hl 3 rfl) ?_
  refine lv_iload_n hx hb dL_law_201 rfl (lv_at hl 0 rfl) ?_
  refine lv_iconst (v := 2) hx hb dL_law_202 (by decide) ?_
  refine lw_iaddN (a := i) (b := 2) hx hb dL_law_203 ?_
  refine lw_sld X hX hbl hG hS hL (i := i + 2) (by omega) dL_law_204 ?_
  refine w_cV1 X hS (m_X5_rule l G ad nA1 nK1 nA nK E I1 J1 (xs (i + 1)) (xs (i + 2)) hm) rfl rfl g592 g4 g589 g590 g591 hd_X5_rule ⟨Nat.le_of_ble_eq_true rfl, Nat.le_of_ble_eq_true rfl⟩ (k_rec X hW 13 0 Nat.zero_lt_one rfl rfl) hW hl.1 rfl (Nat.le_of_ble_eq_true rfl) dL_law_205 (show _ ≤ 600000 by omega) (show _ ≤ 7302250 by omega) (fun H locs hW hS => ?_)
  obtain ⟨_, hv, E1, hR1⟩ := hst
  refine lv_icmp_eq (tgt := 890) hx hb dL_law_208 (by decide) (fun _ => ?_) (fun c_ => absurd (by rw [ecv, hv]) c_)
  refine W.widen (k := cells + 3) (n := slots + 20) (by omega) (by omega) ?_
  exact kk ad _ _ E1 _ _ H locs ls hR1 (hW.to3 enA enK rfl rfl) hS hl
set_option maxHeartbeats 2000000 in
set_option maxRecDepth 100000 in
theorem lw_op3 {RR : Nat → Nat → (Nat → Nat) → k_I → k_J → Prop} (R : k_Rel RR) {p : Program} {l : Launch} {e : Env} {s : State} {m : MethodId} {below : List Frame} {meth : Method} {c : Code} {b L : Nat} {xs : Nat → Int32} {G : k_G} {cells slots i : Nat} {Q : State → Prop} (X : k_X p m c cL_law 4 s #[Value.ref b] "AnswerKeeperLaw" G) (hX : va_X b L xs s s.heap) (hbl : b < s.heap.size) (hG : G.2.2.1 = s.heap.size) (hL : L ≤ 3584) (hi : i + 6 < L) (hc : cells + 3 ≤ 600000) (hs0 : slots + 20 ≤ 7302250) (kk : lw_C RR p l e s m below meth c b G i (cells + 3) (slots + 20) Q 890) : lw_C RR p l e s m below meth c b G i cells slots Q 213 := by
  intro ad nA nK E I J H locs ls hR hW hS hl
  have hx := X.1.1
  have hb := X.1.2.1
  have hs := R.ks hR
  refine lv_aload_n hx hb dL_law_213 rfl (lv_at hl 2 rfl) ?_
  refine lv_aload_n hx hb dL_law_214 rfl (lv_at hl 3 rfl) ?_
  refine lv_iload_n hx hb dL_law_215 rfl (lv_at hl 0 rfl) ?_
  refine lv_iconst (v := 1) hx hb dL_law_216 (by decide) ?_
  refine lw_iaddN (a := i) (b := 1) hx hb dL_law_217 ?_
  refine lw_sld X hX hbl hG hS hL (i := i + 1) (by omega) dL_law_218 ?_
  refine lv_i2l (v := Int32.toInt64 (xs (i + 1))) hx hb dL_law_219 rfl ?_
  refine lv_bipush (v := 32) hx hb dL_law_220 (by decide) ?_
  refine lv_lshl (v := (Int32.toInt64 (xs (i + 1))) <<< (Int32.toInt64 32 &&& 63)) hx hb dL_law_222 rfl ?_
  refine lv_aload_n hx hb dL_law_223 rfl (lv_at hl 3 rfl) ?_
  refine lv_iload_n hx hb dL_law_224 rfl (lv_at hl 0 rfl) ?_
  refine lv_iconst (v := 2) hx hb dL_law_225 (by decide) ?_
  refine lw_iaddN (a := i) (b := 2) hx hb dL_law_226 ?_
  refine lw_sld X hX hbl hG hS hL (i := i + 2) (by omega) dL_law_227 ?_
  refine lv_i2l (v := Int32.toInt64 (xs (i + 2))) hx hb dL_law_228 rfl ?_
  refine lv_ldc2 hx hb X.1.2.2.2.1 (X.1.2.2.2.2 _ g772) dL_law_229 ?_
  refine lv_land hx hb dL_law_232 ?_
  refine lv_lor hx hb dL_law_233 ?_
  refine lv_topl (fun w1 ew1 => ?_)
  refine lv_aload_n hx hb dL_law_234 rfl (lv_at hl 3 rfl) ?_
  refine lv_iload_n hx hb dL_law_235 rfl (lv_at hl 0 rfl) ?_
  refine lv_iconst (v := 3) hx hb dL_law_236 (by decide) ?_
  refine lw_iaddN (a := i) (b := 3) hx hb dL_law_237 ?_
  refine lw_sld X hX hbl hG hS hL (i := i + 3) (by omega) dL_law_238 ?_
  refine lv_aload_n hx hb dL_law_239 rfl (lv_at hl 3 rfl) ?_
  refine lv_iload_n hx hb dL_law_240 rfl (lv_at hl 0 rfl) ?_
  refine lv_iconst (v := 4) hx hb dL_law_241 (by decide) ?_
  refine lw_iaddN (a := i) (b := 4) hx hb dL_law_242 ?_
  refine lw_sld X hX hbl hG hS hL (i := i + 4) (by omega) dL_law_243 ?_
  refine lv_aload_n hx hb dL_law_244 rfl (lv_at hl 3 rfl) ?_
  refine lv_iload_n hx hb dL_law_245 rfl (lv_at hl 0 rfl) ?_
  refine lv_iconst (v := 5) hx hb dL_law_246 (by decide) ?_
  refine lw_iaddN (a := i) (b := 5) hx hb dL_law_247 ?_
  refine lw_sld X hX hbl hG hS hL (i := i + 5) (by omega) dL_law_248 ?_
  refine lv_aload_n hx hb dL_law_249 rfl (lv_at hl 3 rfl) ?_
  refine lv_iload_n hx hb dL_law_250 rfl (lv_at hl 0 rfl) ?_
  refine lv_bipush (v := 6) hx hb dL_law_251 (by decide) ?_
  refine lw_iaddN (a := i) (b := 6) hx hb dL_law_253 ?_
  refine lw_sld X hX hbl hG hS hL (i := i + 6) (by omega) dL_law_254 ?_
  have hst := R.answer (nA := nA) (nK := nK) (E := E) (I := I) (J := J) (w1) (xs (i + 3)) (xs (i + 4)) (xs (i + 5)) (xs (i + 6)) hR
  refine w_cV X hS (m_X4_answer l G ad nA nK I J (w1) (xs (i + 3)) (xs (i + 4)) (xs (i + 5)) (xs (i + 6)) hs (R.z6 hR)) g172 g1 g169 g170 g171 hd_X4_answer ⟨Nat.le_of_ble_eq_true rfl, Nat.le_of_ble_eq_true rfl⟩ (k_rec X hW 0 0 Nat.zero_lt_one rfl rfl) hW hl.1 rfl (Nat.le_of_ble_eq_true rfl) dL_law_255 ⟨(show cells + 3 ≤ 600000 by omega), (show slots + 20 ≤ 7302250 by omega)⟩ (fun H locs hB hS => ?_)
  refine W.cs (cells' := cells + 3) (slots' := slots + 20) rfl rfl ?_
  obtain ⟨ad1, hold, hW⟩ := hB
  have hl : lv_has ls 4 [(3, .int (nI i)), (2, .ref (ad1 13 0)), (1, .ref (ad1 0 0)), (0, .ref b)] := by rw [hold 13 0 Nat.zero_lt_one, hold 0 0 Nat.zero_lt_one]; exact hl
  clear hold
  obtain ⟨ad, ead⟩ : ∃ z, z = ad1 := ⟨_, rfl⟩
  rw [← ead] at hl hW
  obtain ⟨cv, ecv⟩ : ∃ z, z = (cAnswer nA nK (w1) (xs (i + 3)) (xs (i + 4)) (xs (i + 5)) (xs (i + 6)) (I, J)).1 := ⟨_, rfl⟩
  obtain ⟨I1, eI1⟩ : ∃ z, z = (cAnswer nA nK (w1) (xs (i + 3)) (xs (i + 4)) (xs (i + 5)) (xs (i + 6)) (I, J)).2.2.1 := ⟨_, rfl⟩
  obtain ⟨J1, eJ1⟩ : ∃ z, z = (cAnswer nA nK (w1) (xs (i + 3)) (xs (i + 4)) (xs (i + 5)) (xs (i + 6)) (I, J)).2.2.2 := ⟨_, rfl⟩
  have e12 : (cAnswer nA nK (w1) (xs (i + 3)) (xs (i + 4)) (xs (i + 5)) (xs (i + 6)) (I, J)).2.2 = (I1, J1) := by rw [eI1, eJ1]
  rw [e12] at hst
  have hm : m_S nA nK E I1 := hst.1
  obtain ⟨nA1, enA⟩ : ∃ z, z = (cAnswer nA nK (w1) (xs (i + 3)) (xs (i + 4)) (xs (i + 5)) (xs (i + 6)) (I, J)).2.1 := ⟨_, rfl⟩
  obtain ⟨nK1, enK⟩ : ∃ z, z = nK := ⟨_, rfl⟩
  have hW : Wd G ad nA1 nK1 I1 J1 H := by rw [enA, enK, eI1, eJ1]; exact hW
  rw [← ecv]
  refine lv_aload_n hx hb dL_law_258 rfl (lv_at hl 1 rfl) ?_
  refine lv_aload_n hx hb dL_law_259 rfl (lv_at hl 3 rfl) ?_
  refine lv_iload_n hx hb dL_law_260 rfl (lv_at hl 0 rfl) ?_
  refine lv_iconst (v := 1) hx hb dL_law_261 (by decide) ?_
  refine lw_iaddN (a := i) (b := 1) hx hb dL_law_262 ?_
  refine lw_sld X hX hbl hG hS hL (i := i + 1) (by omega) dL_law_263 ?_
  refine lv_i2l (v := Int32.toInt64 (xs (i + 1))) hx hb dL_law_264 rfl ?_
  refine lv_bipush (v := 32) hx hb dL_law_265 (by decide) ?_
  refine lv_lshl (v := (Int32.toInt64 (xs (i + 1))) <<< (Int32.toInt64 32 &&& 63)) hx hb dL_law_267 rfl ?_
  refine lv_aload_n hx hb dL_law_268 rfl (lv_at hl 3 rfl) ?_
  refine lv_iload_n hx hb dL_law_269 rfl (lv_at hl 0 rfl) ?_
  refine lv_iconst (v := 2) hx hb dL_law_270 (by decide) ?_
  refine lw_iaddN (a := i) (b := 2) hx hb dL_law_271 ?_
  refine lw_sld X hX hbl hG hS hL (i := i + 2) (by omega) dL_law_272 ?_
  refine lv_i2l (v := Int32.toInt64 (xs (i + 2))) hx hb dL_law_273 rfl ?_
  refine lv_ldc2 hx hb X.1.2.2.2.1 (X.1.2.2.2.2 _ g772) dL_law_274 ?_
  refine lv_land hx hb dL_law_277 ?_
  refine lv_lor hx hb dL_law_278 ?_
  refine lv_topl (fun w2 ew2 => ?_)
  have ew3 : w1 = w2 := ew1.trans ew2.symm
  subst ew3
  refine lv_aload_n hx hb dL_law_279 rfl (lv_at hl 3 rfl) ?_
  refine lv_iload_n hx hb dL_law_280 rfl (lv_at hl 0 rfl) ?_
  refine lv_iconst (v := 3) hx hb dL_law_281 (by decide) ?_
  refine lw_iaddN (a := i) (b := 3) hx hb dL_law_282 ?_
  refine lw_sld X hX hbl hG hS hL (i := i + 3) (by omega) dL_law_283 ?_
  refine lv_aload_n hx hb dL_law_284 rfl (lv_at hl 3 rfl) ?_
  refine lv_iload_n hx hb dL_law_285 rfl (lv_at hl 0 rfl) ?_
  refine lv_iconst (v := 4) hx hb dL_law_286 (by decide) ?_
  refine lw_iaddN (a := i) (b := 4) hx hb dL_law_287 ?_
  refine lw_sld X hX hbl hG hS hL (i := i + 4) (by omega) dL_law_288 ?_
  refine lv_aload_n hx hb dL_law_289 rfl (lv_at hl 3 rfl) ?_
  refine lv_iload_n hx hb dL_law_290 rfl (lv_at hl 0 rfl) ?_
  refine lv_iconst (v := 5) hx hb dL_law_291 (by decide) ?_
  refine lw_iaddN (a := i) (b := 5) hx hb dL_law_292 ?_
  refine lw_sld X hX hbl hG hS hL (i := i + 5) (by omega) dL_law_293 ?_
  refine lv_aload_n hx hb dL_law_294 rfl (lv_at hl 3 rfl) ?_
  refine lv_iload_n hx hb dL_law_295 rfl (lv_at hl 0 rfl) ?_
  refine lv_bipush (v := 6) hx hb dL_law_296 (by decide) ?_
  refine lw_iaddN (a := i) (b := 6) hx hb dL_law_298 ?_
  refine lw_sld X hX hbl hG hS hL (i := i + 6) (by omega) dL_law_299 ?_
  refine w_cV1 X hS (m_X5_answer l G ad nA1 nK1 nA nK E I1 J1 (w1) (xs (i + 3)) (xs (i + 4)) (xs (i + 5)) (xs (i + 6)) hm) rfl rfl g598 g4 g595 g596 g597 hd_X5_answer ⟨Nat.le_of_ble_eq_true rfl, Nat.le_of_ble_eq_true rfl⟩ (k_rec X hW 13 0 Nat.zero_lt_one rfl rfl) hW hl.1 rfl (Nat.le_of_ble_eq_true rfl) dL_law_300 (show _ ≤ 600000 by omega) (show _ ≤ 7302250 by omega) (fun H locs hW hS => ?_)
  obtain ⟨_, hv, E1, hR1⟩ := hst
  refine lv_icmp_eq (tgt := 890) hx hb dL_law_303 (by decide) (fun _ => ?_) (fun c_ => absurd (by rw [ecv, hv]) c_)
  refine W.widen (k := cells + 3) (n := slots + 20) (by omega) (by omega) ?_
  exact kk ad _ _ E1 _ _ H locs ls hR1 (hW.to3 enA enK rfl rfl) hS hl
set_option maxHeartbeats 2000000 in
set_option maxRecDepth 100000 in
theorem lw_op4 {RR : Nat → Nat → (Nat → Nat) → k_I → k_J → Prop} (R : k_Rel RR) {p : Program} {l : Launch} {e : Env} {s : State} {m : MethodId} {below : List Frame} {meth : Method} {c : Code} {b L : Nat} {xs : Nat → Int32} {G : k_G} {cells slots i : Nat} {Q : State → Prop} (X : k_X p m c cL_law 4 s #[Value.ref b] "AnswerKeeperLaw" G) (hX : va_X b L xs s s.heap) (hbl : b < s.heap.size) (hG : G.2.2.1 = s.heap.size) (hL : L ≤ 3584) (hi : i + 6 < L) (hc : cells + 3 ≤ 600000) (hs0 : slots + 20 ≤ 7302250) (kk : lw_C RR p l e s m below meth c b G i (cells + 3) (slots + 20) Q 890) : lw_C RR p l e s m below meth c b G i cells slots Q 308 := by
  intro ad nA nK E I J H locs ls hR hW hS hl
  have hx := X.1.1
  have hb := X.1.2.1
  have hs := R.ks hR
  refine lv_aload_n hx hb dL_law_308 rfl (lv_at hl 2 rfl) ?_
  refine lv_aload_n hx hb dL_law_309 rfl (lv_at hl 3 rfl) ?_
  refine lv_iload_n hx hb dL_law_310 rfl (lv_at hl 0 rfl) ?_
  refine lv_iconst (v := 1) hx hb dL_law_311 (by decide) ?_
  refine lw_iaddN (a := i) (b := 1) hx hb dL_law_312 ?_
  refine lw_sld X hX hbl hG hS hL (i := i + 1) (by omega) dL_law_313 ?_
  refine lv_aload_n hx hb dL_law_314 rfl (lv_at hl 3 rfl) ?_
  refine lv_iload_n hx hb dL_law_315 rfl (lv_at hl 0 rfl) ?_
  refine lv_iconst (v := 2) hx hb dL_law_316 (by decide) ?_
  refine lw_iaddN (a := i) (b := 2) hx hb dL_law_317 ?_
  refine lw_sld X hX hbl hG hS hL (i := i + 2) (by omega) dL_law_318 ?_
  refine lv_aload_n hx hb dL_law_319 rfl (lv_at hl 3 rfl) ?_
  refine lv_iload_n hx hb dL_law_320 rfl (lv_at hl 0 rfl) ?_
  refine lv_iconst (v := 3) hx hb dL_law_321 (by decide) ?_
  refine lw_iaddN (a := i) (b := 3) hx hb dL_law_322 ?_
  refine lw_sld X hX hbl hG hS hL (i := i + 3) (by omega) dL_law_323 ?_
  refine lv_aload_n hx hb dL_law_324 rfl (lv_at hl 3 rfl) ?_
  refine lv_iload_n hx hb dL_law_325 rfl (lv_at hl 0 rfl) ?_
  refine lv_iconst (v := 4) hx hb dL_law_326 (by decide) ?_
  refine lw_iaddN (a := i) (b := 4) hx hb dL_law_327 ?_
  refine lw_sld X hX hbl hG hS hL (i := i + 4) (by omega) dL_law_328 ?_
  have hst := R.join (nA := nA) (nK := nK) (E := E) (I := I) (J := J) (xs (i + 1)) (xs (i + 2)) (xs (i + 3)) (xs (i + 4)) hR
  refine w_cV X hS (m_X4_join l G ad nA nK I J (xs (i + 1)) (xs (i + 2)) (xs (i + 3)) (xs (i + 4)) hs (R.z6 hR)) g252 g1 g249 g250 g251 hd_X4_join ⟨Nat.le_of_ble_eq_true rfl, Nat.le_of_ble_eq_true rfl⟩ (k_rec X hW 0 0 Nat.zero_lt_one rfl rfl) hW hl.1 rfl (Nat.le_of_ble_eq_true rfl) dL_law_329 ⟨(show cells + 3 ≤ 600000 by omega), (show slots + 20 ≤ 7302250 by omega)⟩ (fun H locs hB hS => ?_)
  refine W.cs (cells' := cells + 3) (slots' := slots + 20) rfl rfl ?_
  obtain ⟨ad1, hold, hW⟩ := hB
  have hl : lv_has ls 4 [(3, .int (nI i)), (2, .ref (ad1 13 0)), (1, .ref (ad1 0 0)), (0, .ref b)] := by rw [hold 13 0 Nat.zero_lt_one, hold 0 0 Nat.zero_lt_one]; exact hl
  clear hold
  obtain ⟨ad, ead⟩ : ∃ z, z = ad1 := ⟨_, rfl⟩
  rw [← ead] at hl hW
  obtain ⟨cv, ecv⟩ : ∃ z, z = (cJoin nA nK (xs (i + 1)) (xs (i + 2)) (xs (i + 3)) (xs (i + 4)) (I, J)).1 := ⟨_, rfl⟩
  obtain ⟨I1, eI1⟩ : ∃ z, z = (cJoin nA nK (xs (i + 1)) (xs (i + 2)) (xs (i + 3)) (xs (i + 4)) (I, J)).2.2.1 := ⟨_, rfl⟩
  obtain ⟨J1, eJ1⟩ : ∃ z, z = (cJoin nA nK (xs (i + 1)) (xs (i + 2)) (xs (i + 3)) (xs (i + 4)) (I, J)).2.2.2 := ⟨_, rfl⟩
  have e12 : (cJoin nA nK (xs (i + 1)) (xs (i + 2)) (xs (i + 3)) (xs (i + 4)) (I, J)).2.2 = (I1, J1) := by rw [eI1, eJ1]
  rw [e12] at hst
  have hm : m_S nA nK E I1 := hst.1
  obtain ⟨nA1, enA⟩ : ∃ z, z = (cJoin nA nK (xs (i + 1)) (xs (i + 2)) (xs (i + 3)) (xs (i + 4)) (I, J)).2.1 := ⟨_, rfl⟩
  obtain ⟨nK1, enK⟩ : ∃ z, z = nK := ⟨_, rfl⟩
  have hW : Wd G ad nA1 nK1 I1 J1 H := by rw [enA, enK, eI1, eJ1]; exact hW
  rw [← ecv]
  refine lv_aload_n hx hb dL_law_332 rfl (lv_at hl 1 rfl) ?_
  refine lv_aload_n hx hb dL_law_333 rfl (lv_at hl 3 rfl) ?_
  refine lv_iload_n hx hb dL_law_334 rfl (lv_at hl 0 rfl) ?_
  refine lv_iconst (v := 1) hx hb dL_law_335 (by decide) ?_
  refine lw_iaddN (a := i) (b := 1) hx hb dL_law_336 ?_
  refine lw_sld X hX hbl hG hS hL (i := i + 1) (by omega) dL_law_337 ?_
  refine lv_aload_n hx hb dL_law_338 rfl (lv_at hl 3 rfl) ?_
  refine lv_iload_n hx hb dL_law_339 rfl (lv_at hl 0 rfl) ?_
  refine lv_iconst (v := 2) hx hb dL_law_340 (by decide) ?_
  refine lw_iaddN (a := i) (b := 2) hx hb dL_law_341 ?_
  refine lw_sld X hX hbl hG hS hL (i := i + 2) (by omega) dL_law_342 ?_
  refine lv_aload_n hx hb dL_law_343 rfl (lv_at hl 3 rfl) ?_
  refine lv_iload_n hx hb dL_law_344 rfl (lv_at hl 0 rfl) ?_
  refine lv_iconst (v := 3) hx hb dL_law_345 (by decide) ?_
  refine lw_iaddN (a := i) (b := 3) hx hb dL_law_346 ?_
  refine lw_sld X hX hbl hG hS hL (i := i + 3) (by omega) dL_law_347 ?_
  refine lv_aload_n hx hb dL_law_348 rfl (lv_at hl 3 rfl) ?_
  refine lv_iload_n hx hb dL_law_349 rfl (lv_at hl 0 rfl) ?_
  refine lv_iconst (v := 4) hx hb dL_law_350 (by decide) ?_
  refine lw_iaddN (a := i) (b := 4) hx hb dL_law_351 ?_
  refine lw_sld X hX hbl hG hS hL (i := i + 4) (by omega) dL_law_352 ?_
  refine w_cV1 X hS (m_X5_join l G ad nA1 nK1 nA nK E I1 J1 (xs (i + 1)) (xs (i + 2)) (xs (i + 3)) (xs (i + 4)) hm) rfl rfl g611 g4 g608 g609 g610 hd_X5_join ⟨Nat.le_of_ble_eq_true rfl, Nat.le_of_ble_eq_true rfl⟩ (k_rec X hW 13 0 Nat.zero_lt_one rfl rfl) hW hl.1 rfl (Nat.le_of_ble_eq_true rfl) dL_law_353 (show _ ≤ 600000 by omega) (show _ ≤ 7302250 by omega) (fun H locs hW hS => ?_)
  obtain ⟨_, hv, E1, hR1⟩ := hst
  refine lv_icmp_eq (tgt := 890) hx hb dL_law_356 (by decide) (fun _ => ?_) (fun c_ => absurd (by rw [ecv, hv]) c_)
  refine W.widen (k := cells + 3) (n := slots + 20) (by omega) (by omega) ?_
  exact kk ad _ _ E1 _ _ H locs ls hR1 (hW.to3 enA enK rfl rfl) hS hl
set_option maxHeartbeats 2000000 in
set_option maxRecDepth 100000 in
theorem lw_op5 {RR : Nat → Nat → (Nat → Nat) → k_I → k_J → Prop} (R : k_Rel RR) {p : Program} {l : Launch} {e : Env} {s : State} {m : MethodId} {below : List Frame} {meth : Method} {c : Code} {b L : Nat} {xs : Nat → Int32} {G : k_G} {cells slots i : Nat} {Q : State → Prop} (X : k_X p m c cL_law 4 s #[Value.ref b] "AnswerKeeperLaw" G) (hX : va_X b L xs s s.heap) (hbl : b < s.heap.size) (hG : G.2.2.1 = s.heap.size) (hL : L ≤ 3584) (hi : i + 6 < L) (hc : cells + 3 ≤ 600000) (hs0 : slots + 20 ≤ 7302250) (kk : lw_C RR p l e s m below meth c b G i (cells + 3) (slots + 20) Q 890) : lw_C RR p l e s m below meth c b G i cells slots Q 361 := by
  intro ad nA nK E I J H locs ls hR hW hS hl
  have hx := X.1.1
  have hb := X.1.2.1
  have hs := R.ks hR
  refine lv_aload_n hx hb dL_law_361 rfl (lv_at hl 2 rfl) ?_
  refine lv_aload_n hx hb dL_law_362 rfl (lv_at hl 3 rfl) ?_
  refine lv_iload_n hx hb dL_law_363 rfl (lv_at hl 0 rfl) ?_
  refine lv_iconst (v := 1) hx hb dL_law_364 (by decide) ?_
  refine lw_iaddN (a := i) (b := 1) hx hb dL_law_365 ?_
  refine lw_sld X hX hbl hG hS hL (i := i + 1) (by omega) dL_law_366 ?_
  refine lv_aload_n hx hb dL_law_367 rfl (lv_at hl 3 rfl) ?_
  refine lv_iload_n hx hb dL_law_368 rfl (lv_at hl 0 rfl) ?_
  refine lv_iconst (v := 2) hx hb dL_law_369 (by decide) ?_
  refine lw_iaddN (a := i) (b := 2) hx hb dL_law_370 ?_
  refine lw_sld X hX hbl hG hS hL (i := i + 2) (by omega) dL_law_371 ?_
  have hst := R.bind (nA := nA) (nK := nK) (E := E) (I := I) (J := J) (xs (i + 1)) (xs (i + 2)) hR
  refine w_cV1 X hS (m_X4_bind l G ad nA nK I J (xs (i + 1)) (xs (i + 2)) hs) rfl rfl g282 g1 g279 g280 g281 hd_X4_bind ⟨Nat.le_of_ble_eq_true rfl, Nat.le_of_ble_eq_true rfl⟩ (k_rec X hW 0 0 Nat.zero_lt_one rfl rfl) hW hl.1 rfl (Nat.le_of_ble_eq_true rfl) dL_law_372 (show _ ≤ 600000 by omega) (show _ ≤ 7302250 by omega) (fun H locs hW hS => ?_)
  obtain ⟨cv, ecv⟩ : ∃ z, z = (cBind nA nK (xs (i + 1)) (xs (i + 2)) (I, J)).1 := ⟨_, rfl⟩
  obtain ⟨I1, eI1⟩ : ∃ z, z = (cBind nA nK (xs (i + 1)) (xs (i + 2)) (I, J)).2.1 := ⟨_, rfl⟩
  obtain ⟨J1, eJ1⟩ : ∃ z, z = (cBind nA nK (xs (i + 1)) (xs (i + 2)) (I, J)).2.2 := ⟨_, rfl⟩
  have e12 : (cBind nA nK (xs (i + 1)) (xs (i + 2)) (I, J)).2 = (I1, J1) := by rw [eI1, eJ1]
  rw [e12] at hst
  have hm : m_S nA nK E I1 := hst.1
  obtain ⟨nA1, enA⟩ : ∃ z, z = nA := ⟨_, rfl⟩
  obtain ⟨nK1, enK⟩ : ∃ z, z = nK := ⟨_, rfl⟩
  have hW : Wd G ad nA1 nK1 I1 J1 H := by rw [enA, enK, eI1, eJ1]; exact hW
  rw [← ecv]
  refine lv_aload_n hx hb dL_law_375 rfl (lv_at hl 1 rfl) ?_
  refine lv_aload_n hx hb dL_law_376 rfl (lv_at hl 3 rfl) ?_
  refine lv_iload_n hx hb dL_law_377 rfl (lv_at hl 0 rfl) ?_
  refine lv_iconst (v := 1) hx hb dL_law_378 (by decide) ?_
  refine lw_iaddN (a := i) (b := 1) hx hb dL_law_379 ?_
  refine lw_sld X hX hbl hG hS hL (i := i + 1) (by omega) dL_law_380 ?_
  refine lv_aload_n hx hb dL_law_381 rfl (lv_at hl 3 rfl) ?_
  refine lv_iload_n hx hb dL_law_382 rfl (lv_at hl 0 rfl) ?_
  refine lv_iconst (v := 2) hx hb dL_law_383 (by decide) ?_
  refine lw_iaddN (a := i) (b := 2) hx hb dL_law_384 ?_
  refine lw_sld X hX hbl hG hS hL (i := i + 2) (by omega) dL_law_385 ?_
  refine w_cV1 X hS (m_X5_bind l G ad nA1 nK1 nA nK E I1 J1 (xs (i + 1)) (xs (i + 2)) hm) rfl rfl g623 g4 g620 g621 g622 hd_X5_bind ⟨Nat.le_of_ble_eq_true rfl, Nat.le_of_ble_eq_true rfl⟩ (k_rec X hW 13 0 Nat.zero_lt_one rfl rfl) hW hl.1 rfl (Nat.le_of_ble_eq_true rfl) dL_law_386 (show _ ≤ 600000 by omega) (show _ ≤ 7302250 by omega) (fun H locs hW hS => ?_)
  obtain ⟨_, hv, E1, hR1⟩ := hst
  refine lv_icmp_eq (tgt := 890) hx hb dL_law_389 (by decide) (fun _ => ?_) (fun c_ => absurd (by rw [ecv, hv]) c_)
  refine W.widen (k := cells + 3) (n := slots + 20) (by omega) (by omega) ?_
  exact kk ad _ _ E1 _ _ H locs ls hR1 (hW.to3 enA enK rfl rfl) hS hl
set_option maxHeartbeats 2000000 in
set_option maxRecDepth 100000 in
theorem lw_op6 {RR : Nat → Nat → (Nat → Nat) → k_I → k_J → Prop} (R : k_Rel RR) {p : Program} {l : Launch} {e : Env} {s : State} {m : MethodId} {below : List Frame} {meth : Method} {c : Code} {b L : Nat} {xs : Nat → Int32} {G : k_G} {cells slots i : Nat} {Q : State → Prop} (X : k_X p m c cL_law 4 s #[Value.ref b] "AnswerKeeperLaw" G) (hX : va_X b L xs s s.heap) (hbl : b < s.heap.size) (hG : G.2.2.1 = s.heap.size) (hL : L ≤ 3584) (hi : i + 6 < L) (hc : cells + 3 ≤ 600000) (hs0 : slots + 20 ≤ 7302250) (kk : lw_C RR p l e s m below meth c b G i (cells + 3) (slots + 20) Q 890) : lw_C RR p l e s m below meth c b G i cells slots Q 394 := by
  intro ad nA nK E I J H locs ls hR hW hS hl
  have hx := X.1.1
  have hb := X.1.2.1
  have hs := R.ks hR
  refine lv_aload_n hx hb dL_law_394 rfl (lv_at hl 2 rfl) ?_
  refine lv_aload_n hx hb dL_law_395 rfl (lv_at hl 3 rfl) ?_
  refine lv_iload_n hx hb dL_law_396 rfl (lv_at hl 0 rfl) ?_
  refine lv_iconst (v := 1) hx hb dL_law_397 (by decide) ?_
  refine lw_iaddN (a := i) (b := 1) hx hb dL_law_398 ?_
  refine lw_sld X hX hbl hG hS hL (i := i + 1) (by omega) dL_law_399 ?_
  have hst := R.confirm (nA := nA) (nK := nK) (E := E) (I := I) (J := J) (xs (i + 1)) hR
  refine w_cV1 X hS (m_X4_confirm l G ad nA nK I J (xs (i + 1)) hs) rfl rfl g286 g1 g283 g284 g285 hd_X4_confirm ⟨Nat.le_of_ble_eq_true rfl, Nat.le_of_ble_eq_true rfl⟩ (k_rec X hW 0 0 Nat.zero_lt_one rfl rfl) hW hl.1 rfl (Nat.le_of_ble_eq_true rfl) dL_law_400 (show _ ≤ 600000 by omega) (show _ ≤ 7302250 by omega) (fun H locs hW hS => ?_)
  obtain ⟨cv, ecv⟩ : ∃ z, z = (cConfirm nA nK (xs (i + 1)) (I, J)).1 := ⟨_, rfl⟩
  obtain ⟨I1, eI1⟩ : ∃ z, z = (cConfirm nA nK (xs (i + 1)) (I, J)).2.1 := ⟨_, rfl⟩
  obtain ⟨J1, eJ1⟩ : ∃ z, z = (cConfirm nA nK (xs (i + 1)) (I, J)).2.2 := ⟨_, rfl⟩
  have e12 : (cConfirm nA nK (xs (i + 1)) (I, J)).2 = (I1, J1) := by rw [eI1, eJ1]
  rw [e12] at hst
  have hm : m_S nA nK E I1 := hst.1
  obtain ⟨nA1, enA⟩ : ∃ z, z = nA := ⟨_, rfl⟩
  obtain ⟨nK1, enK⟩ : ∃ z, z = nK := ⟨_, rfl⟩
  have hW : Wd G ad nA1 nK1 I1 J1 H := by rw [enA, enK, eI1, eJ1]; exact hW
  rw [← ecv]
  refine lv_aload_n hx hb dL_law_403 rfl (lv_at hl 1 rfl) ?_
  refine lv_aload_n hx hb dL_law_404 rfl (lv_at hl 3 rfl) ?_
  refine lv_iload_n hx hb dL_law_405 rfl (lv_at hl 0 rfl) ?_
  refine lv_iconst (v := 1) hx hb dL_law_406 (by decide) ?_
  refine lw_iaddN (a := i) (b := 1) hx hb dL_law_407 ?_
  refine lw_sld X hX hbl hG hS hL (i := i + 1) (by omega) dL_law_408 ?_
  refine w_cV1 X hS (m_X5_confirm l G ad nA1 nK1 nA nK E I1 J1 (xs (i + 1)) hm) rfl rfl g627 g4 g624 g625 g626 hd_X5_confirm ⟨Nat.le_of_ble_eq_true rfl, Nat.le_of_ble_eq_true rfl⟩ (k_rec X hW 13 0 Nat.zero_lt_one rfl rfl) hW hl.1 rfl (Nat.le_of_ble_eq_true rfl) dL_law_409 (show _ ≤ 600000 by omega) (show _ ≤ 7302250 by omega) (fun H locs hW hS => ?_)
  obtain ⟨_, hv, E1, hR1⟩ := hst
  refine lv_icmp_eq (tgt := 890) hx hb dL_law_412 (by decide) (fun _ => ?_) (fun c_ => absurd (by rw [ecv, hv]) c_)
  refine W.widen (k := cells + 3) (n := slots + 20) (by omega) (by omega) ?_
  exact kk ad _ _ E1 _ _ H locs ls hR1 (hW.to3 enA enK rfl rfl) hS hl
set_option maxHeartbeats 2000000 in
set_option maxRecDepth 100000 in
theorem lw_op7 {RR : Nat → Nat → (Nat → Nat) → k_I → k_J → Prop} (R : k_Rel RR) {p : Program} {l : Launch} {e : Env} {s : State} {m : MethodId} {below : List Frame} {meth : Method} {c : Code} {b L : Nat} {xs : Nat → Int32} {G : k_G} {cells slots i : Nat} {Q : State → Prop} (X : k_X p m c cL_law 4 s #[Value.ref b] "AnswerKeeperLaw" G) (hX : va_X b L xs s s.heap) (hbl : b < s.heap.size) (hG : G.2.2.1 = s.heap.size) (hL : L ≤ 3584) (hi : i + 6 < L) (hc : cells + 3 ≤ 600000) (hs0 : slots + 20 ≤ 7302250) (kk : lw_C RR p l e s m below meth c b G i (cells + 3) (slots + 20) Q 890) : lw_C RR p l e s m below meth c b G i cells slots Q 417 := by
  intro ad nA nK E I J H locs ls hR hW hS hl
  have hx := X.1.1
  have hb := X.1.2.1
  have hs := R.ks hR
  refine lv_aload_n hx hb dL_law_417 rfl (lv_at hl 2 rfl) ?_
  refine lv_aload_n hx hb dL_law_418 rfl (lv_at hl 3 rfl) ?_
  refine lv_iload_n hx hb dL_law_419 rfl (lv_at hl 0 rfl) ?_
  refine lv_iconst (v := 1) hx hb dL_law_420 (by decide) ?_
  refine lw_iaddN (a := i) (b := 1) hx hb dL_law_421 ?_
  refine lw_sld X hX hbl hG hS hL (i := i + 1) (by omega) dL_law_422 ?_
  refine lv_aload_n hx hb dL_law_423 rfl (lv_at hl 3 rfl) ?_
  refine lv_iload_n hx hb dL_law_424 rfl (lv_at hl 0 rfl) ?_
  refine lv_iconst (v := 2) hx hb dL_law_425 (by decide) ?_
  refine lw_iaddN (a := i) (b := 2) hx hb dL_law_426 ?_
  refine lw_sld X hX hbl hG hS hL (i := i + 2) (by omega) dL_law_427 ?_
  have hst := R.move (nA := nA) (nK := nK) (E := E) (I := I) (J := J) (xs (i + 1)) (xs (i + 2)) hR
  refine w_cV1 X hS (m_X4_move l G ad nA nK I J (xs (i + 1)) (xs (i + 2)) hs) rfl rfl g294 g1 g291 g292 g293 hd_X4_move ⟨Nat.le_of_ble_eq_true rfl, Nat.le_of_ble_eq_true rfl⟩ (k_rec X hW 0 0 Nat.zero_lt_one rfl rfl) hW hl.1 rfl (Nat.le_of_ble_eq_true rfl) dL_law_428 (show _ ≤ 600000 by omega) (show _ ≤ 7302250 by omega) (fun H locs hW hS => ?_)
  obtain ⟨cv, ecv⟩ : ∃ z, z = (cMove nA nK (xs (i + 1)) (xs (i + 2)) (I, J)).1 := ⟨_, rfl⟩
  obtain ⟨I1, eI1⟩ : ∃ z, z = (cMove nA nK (xs (i + 1)) (xs (i + 2)) (I, J)).2.1 := ⟨_, rfl⟩
  obtain ⟨J1, eJ1⟩ : ∃ z, z = (cMove nA nK (xs (i + 1)) (xs (i + 2)) (I, J)).2.2 := ⟨_, rfl⟩
  have e12 : (cMove nA nK (xs (i + 1)) (xs (i + 2)) (I, J)).2 = (I1, J1) := by rw [eI1, eJ1]
  rw [e12] at hst
  have hm : m_S nA nK E I1 := hst.1
  obtain ⟨nA1, enA⟩ : ∃ z, z = nA := ⟨_, rfl⟩
  obtain ⟨nK1, enK⟩ : ∃ z, z = nK := ⟨_, rfl⟩
  have hW : Wd G ad nA1 nK1 I1 J1 H := by rw [enA, enK, eI1, eJ1]; exact hW
  rw [← ecv]
  refine lv_aload_n hx hb dL_law_431 rfl (lv_at hl 1 rfl) ?_
  refine lv_aload_n hx hb dL_law_432 rfl (lv_at hl 3 rfl) ?_
  refine lv_iload_n hx hb dL_law_433 rfl (lv_at hl 0 rfl) ?_
  refine lv_iconst (v := 1) hx hb dL_law_434 (by decide) ?_
  refine lw_iaddN (a := i) (b := 1) hx hb dL_law_435 ?_
  refine lw_sld X hX hbl hG hS hL (i := i + 1) (by omega) dL_law_436 ?_
  refine lv_aload_n hx hb dL_law_437 rfl (lv_at hl 3 rfl) ?_
  refine lv_iload_n hx hb dL_law_438 rfl (lv_at hl 0 rfl) ?_
  refine lv_iconst (v := 2) hx hb dL_law_439 (by decide) ?_
  refine lw_iaddN (a := i) (b := 2) hx hb dL_law_440 ?_
  refine lw_sld X hX hbl hG hS hL (i := i + 2) (by omega) dL_law_441 ?_
  refine w_cV1 X hS (m_X5_move l G ad nA1 nK1 nA nK E I1 J1 (xs (i + 1)) (xs (i + 2)) hm) rfl rfl g650 g4 g647 g648 g649 hd_X5_move ⟨Nat.le_of_ble_eq_true rfl, Nat.le_of_ble_eq_true rfl⟩ (k_rec X hW 13 0 Nat.zero_lt_one rfl rfl) hW hl.1 rfl (Nat.le_of_ble_eq_true rfl) dL_law_442 (show _ ≤ 600000 by omega) (show _ ≤ 7302250 by omega) (fun H locs hW hS => ?_)
  obtain ⟨_, hv, E1, hR1⟩ := hst
  refine lv_icmp_eq (tgt := 890) hx hb dL_law_445 (by decide) (fun _ => ?_) (fun c_ => absurd (by rw [ecv, hv]) c_)
  refine W.widen (k := cells + 3) (n := slots + 20) (by omega) (by omega) ?_
  exact kk ad _ _ E1 _ _ H locs ls hR1 (hW.to3 enA enK rfl rfl) hS hl
set_option maxHeartbeats 2000000 in
set_option maxRecDepth 100000 in
theorem lw_op8 {RR : Nat → Nat → (Nat → Nat) → k_I → k_J → Prop} (R : k_Rel RR) {p : Program} {l : Launch} {e : Env} {s : State} {m : MethodId} {below : List Frame} {meth : Method} {c : Code} {b L : Nat} {xs : Nat → Int32} {G : k_G} {cells slots i : Nat} {Q : State → Prop} (X : k_X p m c cL_law 4 s #[Value.ref b] "AnswerKeeperLaw" G) (hX : va_X b L xs s s.heap) (hbl : b < s.heap.size) (hG : G.2.2.1 = s.heap.size) (hL : L ≤ 3584) (hi : i + 6 < L) (hc : cells + 3 ≤ 600000) (hs0 : slots + 20 ≤ 7302250) (kk : lw_C RR p l e s m below meth c b G i (cells + 3) (slots + 20) Q 890) : lw_C RR p l e s m below meth c b G i cells slots Q 450 := by
  intro ad nA nK E I J H locs ls hR hW hS hl
  have hx := X.1.1
  have hb := X.1.2.1
  have hs := R.ks hR
  refine lv_aload_n hx hb dL_law_450 rfl (lv_at hl 2 rfl) ?_
  refine lv_aload_n hx hb dL_law_451 rfl (lv_at hl 3 rfl) ?_
  refine lv_iload_n hx hb dL_law_452 rfl (lv_at hl 0 rfl) ?_
  refine lv_iconst (v := 1) hx hb dL_law_453 (by decide) ?_
  refine lw_iaddN (a := i) (b := 1) hx hb dL_law_454 ?_
  refine lw_sld X hX hbl hG hS hL (i := i + 1) (by omega) dL_law_455 ?_
  refine lv_aload_n hx hb dL_law_456 rfl (lv_at hl 3 rfl) ?_
  refine lv_iload_n hx hb dL_law_457 rfl (lv_at hl 0 rfl) ?_
  refine lv_iconst (v := 2) hx hb dL_law_458 (by decide) ?_
  refine lw_iaddN (a := i) (b := 2) hx hb dL_law_459 ?_
  refine lw_sld X hX hbl hG hS hL (i := i + 2) (by omega) dL_law_460 ?_
  have hst := R.melt (nA := nA) (nK := nK) (E := E) (I := I) (J := J) (xs (i + 1)) (xs (i + 2)) hR
  refine w_cV1 X hS (m_X4_melt l G ad nA nK I J (xs (i + 1)) (xs (i + 2)) hs) rfl rfl g303 g1 g300 g301 g302 hd_X4_melt ⟨Nat.le_of_ble_eq_true rfl, Nat.le_of_ble_eq_true rfl⟩ (k_rec X hW 0 0 Nat.zero_lt_one rfl rfl) hW hl.1 rfl (Nat.le_of_ble_eq_true rfl) dL_law_461 (show _ ≤ 600000 by omega) (show _ ≤ 7302250 by omega) (fun H locs hW hS => ?_)
  obtain ⟨cv, ecv⟩ : ∃ z, z = (cMelt nA nK (xs (i + 1)) (xs (i + 2)) (I, J)).1 := ⟨_, rfl⟩
  obtain ⟨I1, eI1⟩ : ∃ z, z = (cMelt nA nK (xs (i + 1)) (xs (i + 2)) (I, J)).2.1 := ⟨_, rfl⟩
  obtain ⟨J1, eJ1⟩ : ∃ z, z = (cMelt nA nK (xs (i + 1)) (xs (i + 2)) (I, J)).2.2 := ⟨_, rfl⟩
  have e12 : (cMelt nA nK (xs (i + 1)) (xs (i + 2)) (I, J)).2 = (I1, J1) := by rw [eI1, eJ1]
  rw [e12] at hst
  have hm : m_S nA nK E I1 := hst.1
  obtain ⟨nA1, enA⟩ : ∃ z, z = nA := ⟨_, rfl⟩
  obtain ⟨nK1, enK⟩ : ∃ z, z = nK := ⟨_, rfl⟩
  have hW : Wd G ad nA1 nK1 I1 J1 H := by rw [enA, enK, eI1, eJ1]; exact hW
  rw [← ecv]
  refine lv_aload_n hx hb dL_law_464 rfl (lv_at hl 1 rfl) ?_
  refine lv_aload_n hx hb dL_law_465 rfl (lv_at hl 3 rfl) ?_
  refine lv_iload_n hx hb dL_law_466 rfl (lv_at hl 0 rfl) ?_
  refine lv_iconst (v := 1) hx hb dL_law_467 (by decide) ?_
  refine lw_iaddN (a := i) (b := 1) hx hb dL_law_468 ?_
  refine lw_sld X hX hbl hG hS hL (i := i + 1) (by omega) dL_law_469 ?_
  refine lv_aload_n hx hb dL_law_470 rfl (lv_at hl 3 rfl) ?_
  refine lv_iload_n hx hb dL_law_471 rfl (lv_at hl 0 rfl) ?_
  refine lv_iconst (v := 2) hx hb dL_law_472 (by decide) ?_
  refine lw_iaddN (a := i) (b := 2) hx hb dL_law_473 ?_
  refine lw_sld X hX hbl hG hS hL (i := i + 2) (by omega) dL_law_474 ?_
  refine w_cV1 X hS (m_X5_melt l G ad nA1 nK1 nA nK E I1 J1 (xs (i + 1)) (xs (i + 2)) hm) rfl rfl g658 g4 g655 g656 g657 hd_X5_melt ⟨Nat.le_of_ble_eq_true rfl, Nat.le_of_ble_eq_true rfl⟩ (k_rec X hW 13 0 Nat.zero_lt_one rfl rfl) hW hl.1 rfl (Nat.le_of_ble_eq_true rfl) dL_law_475 (show _ ≤ 600000 by omega) (show _ ≤ 7302250 by omega) (fun H locs hW hS => ?_)
  obtain ⟨_, hv, E1, hR1⟩ := hst
  refine lv_icmp_eq (tgt := 890) hx hb dL_law_478 (by decide) (fun _ => ?_) (fun c_ => absurd (by rw [ecv, hv]) c_)
  refine W.widen (k := cells + 3) (n := slots + 20) (by omega) (by omega) ?_
  exact kk ad _ _ E1 _ _ H locs ls hR1 (hW.to3 enA enK rfl rfl) hS hl
set_option maxHeartbeats 2000000 in
set_option maxRecDepth 100000 in
theorem lw_op9 {RR : Nat → Nat → (Nat → Nat) → k_I → k_J → Prop} (R : k_Rel RR) {p : Program} {l : Launch} {e : Env} {s : State} {m : MethodId} {below : List Frame} {meth : Method} {c : Code} {b L : Nat} {xs : Nat → Int32} {G : k_G} {cells slots i : Nat} {Q : State → Prop} (X : k_X p m c cL_law 4 s #[Value.ref b] "AnswerKeeperLaw" G) (hX : va_X b L xs s s.heap) (hbl : b < s.heap.size) (hG : G.2.2.1 = s.heap.size) (hL : L ≤ 3584) (hi : i + 6 < L) (hc : cells + 3 ≤ 600000) (hs0 : slots + 20 ≤ 7302250) (kk : lw_C RR p l e s m below meth c b G i (cells + 3) (slots + 20) Q 890) : lw_C RR p l e s m below meth c b G i cells slots Q 483 := by
  intro ad nA nK E I J H locs ls hR hW hS hl
  have hx := X.1.1
  have hb := X.1.2.1
  have hs := R.ks hR
  refine lv_aload_n hx hb dL_law_483 rfl (lv_at hl 2 rfl) ?_
  refine lv_aload_n hx hb dL_law_484 rfl (lv_at hl 3 rfl) ?_
  refine lv_iload_n hx hb dL_law_485 rfl (lv_at hl 0 rfl) ?_
  refine lv_iconst (v := 1) hx hb dL_law_486 (by decide) ?_
  refine lw_iaddN (a := i) (b := 1) hx hb dL_law_487 ?_
  refine lw_sld X hX hbl hG hS hL (i := i + 1) (by omega) dL_law_488 ?_
  refine lv_aload_n hx hb dL_law_489 rfl (lv_at hl 3 rfl) ?_
  refine lv_iload_n hx hb dL_law_490 rfl (lv_at hl 0 rfl) ?_
  refine lv_iconst (v := 2) hx hb dL_law_491 (by decide) ?_
  refine lw_iaddN (a := i) (b := 2) hx hb dL_law_492 ?_
  refine lw_sld X hX hbl hG hS hL (i := i + 2) (by omega) dL_law_493 ?_
  suffices hv : W p l e room_1 s m #[Value.ref b] below meth c H locs cells slots Q (F0 m 502 ls (.int (k_b (!decide (xs (i + 2) = 0))) :: .int (xs (i + 1)) :: .ref (ad 0 0) :: [])) by
    refine lv_if_eq (tgt := 501) hx hb dL_law_494 (by decide) (fun c_ => ?_) (fun c_ => ?_)
    · refine lv_iconst (v := 0) hx hb dL_law_501 (by decide) ?_
      rw [show k_b (!decide (xs (i + 2) = 0)) = 0 from by rw [c_]; rfl] at hv
      exact hv
    · refine lv_iconst (v := 1) hx hb dL_law_497 (by decide) ?_
      refine lv_goto (tgt := 502) hx hb dL_law_498 (by decide) ?_
      rw [show k_b (!decide (xs (i + 2) = 0)) = 1 from by simp [k_b, c_]] at hv
      exact hv
  have hst := R.vote (nA := nA) (nK := nK) (E := E) (I := I) (J := J) (xs (i + 1)) ((!decide (xs (i + 2) = 0))) hR
  refine w_cV1 X hS (m_X4_vote l G ad nA nK I J (xs (i + 1)) ((!decide (xs (i + 2) = 0))) hs) rfl rfl g324 g1 g321 g322 g323 hd_X4_vote ⟨Nat.le_of_ble_eq_true rfl, Nat.le_of_ble_eq_true rfl⟩ (k_rec X hW 0 0 Nat.zero_lt_one rfl rfl) hW hl.1 rfl (Nat.le_of_ble_eq_true rfl) dL_law_502 (show _ ≤ 600000 by omega) (show _ ≤ 7302250 by omega) (fun H locs hW hS => ?_)
  obtain ⟨cv, ecv⟩ : ∃ z, z = (cVote nA (xs (i + 1)) ((!decide (xs (i + 2) = 0))) (I, J)).1 := ⟨_, rfl⟩
  obtain ⟨I1, eI1⟩ : ∃ z, z = (cVote nA (xs (i + 1)) ((!decide (xs (i + 2) = 0))) (I, J)).2.1 := ⟨_, rfl⟩
  obtain ⟨J1, eJ1⟩ : ∃ z, z = (cVote nA (xs (i + 1)) ((!decide (xs (i + 2) = 0))) (I, J)).2.2 := ⟨_, rfl⟩
  have e12 : (cVote nA (xs (i + 1)) ((!decide (xs (i + 2) = 0))) (I, J)).2 = (I1, J1) := by rw [eI1, eJ1]
  rw [e12] at hst
  have hm : m_S nA nK E I1 := hst.1
  obtain ⟨nA1, enA⟩ : ∃ z, z = nA := ⟨_, rfl⟩
  obtain ⟨nK1, enK⟩ : ∃ z, z = nK := ⟨_, rfl⟩
  have hW : Wd G ad nA1 nK1 I1 J1 H := by rw [enA, enK, eI1, eJ1]; exact hW
  rw [← ecv]
  refine lv_aload_n hx hb dL_law_505 rfl (lv_at hl 1 rfl) ?_
  refine lv_aload_n hx hb dL_law_506 rfl (lv_at hl 3 rfl) ?_
  refine lv_iload_n hx hb dL_law_507 rfl (lv_at hl 0 rfl) ?_
  refine lv_iconst (v := 1) hx hb dL_law_508 (by decide) ?_
  refine lw_iaddN (a := i) (b := 1) hx hb dL_law_509 ?_
  refine lw_sld X hX hbl hG hS hL (i := i + 1) (by omega) dL_law_510 ?_
  refine lv_aload_n hx hb dL_law_511 rfl (lv_at hl 3 rfl) ?_
  refine lv_iload_n hx hb dL_law_512 rfl (lv_at hl 0 rfl) ?_
  refine lv_iconst (v := 2) hx hb dL_law_513 (by decide) ?_
  refine lw_iaddN (a := i) (b := 2) hx hb dL_law_514 ?_
  refine lw_sld X hX hbl hG hS hL (i := i + 2) (by omega) dL_law_515 ?_
  suffices hv : W p l e room_1 s m #[Value.ref b] below meth c H locs cells slots Q (F0 m 524 ls (.int (k_b (!decide (xs (i + 2) = 0))) :: .int (xs (i + 1)) :: .ref (ad 13 0) :: .int (cv) :: [])) by
    refine lv_if_eq (tgt := 523) hx hb dL_law_516 (by decide) (fun c_ => ?_) (fun c_ => ?_)
    · refine lv_iconst (v := 0) hx hb dL_law_523 (by decide) ?_
      rw [show k_b (!decide (xs (i + 2) = 0)) = 0 from by rw [c_]; rfl] at hv
      exact hv
    · refine lv_iconst (v := 1) hx hb dL_law_519 (by decide) ?_
      refine lv_goto (tgt := 524) hx hb dL_law_520 (by decide) ?_
      rw [show k_b (!decide (xs (i + 2) = 0)) = 1 from by simp [k_b, c_]] at hv
      exact hv
  refine w_cV1 X hS (m_X5_vote l G ad nA1 nK1 nA nK E I1 J1 (xs (i + 1)) ((!decide (xs (i + 2) = 0))) hm) rfl rfl g666 g4 g663 g664 g665 hd_X5_vote ⟨Nat.le_of_ble_eq_true rfl, Nat.le_of_ble_eq_true rfl⟩ (k_rec X hW 13 0 Nat.zero_lt_one rfl rfl) hW hl.1 rfl (Nat.le_of_ble_eq_true rfl) dL_law_524 (show _ ≤ 600000 by omega) (show _ ≤ 7302250 by omega) (fun H locs hW hS => ?_)
  obtain ⟨_, hv, E1, hR1⟩ := hst
  refine lv_icmp_eq (tgt := 890) hx hb dL_law_527 (by decide) (fun _ => ?_) (fun c_ => absurd (by rw [ecv, hv]) c_)
  refine W.widen (k := cells + 3) (n := slots + 20) (by omega) (by omega) ?_
  exact kk ad _ _ E1 _ _ H locs ls hR1 (hW.to3 enA enK rfl rfl) hS hl
set_option maxHeartbeats 2000000 in
set_option maxRecDepth 100000 in
theorem lw_op10 {RR : Nat → Nat → (Nat → Nat) → k_I → k_J → Prop} (R : k_Rel RR) {p : Program} {l : Launch} {e : Env} {s : State} {m : MethodId} {below : List Frame} {meth : Method} {c : Code} {b L : Nat} {xs : Nat → Int32} {G : k_G} {cells slots i : Nat} {Q : State → Prop} (X : k_X p m c cL_law 4 s #[Value.ref b] "AnswerKeeperLaw" G) (hX : va_X b L xs s s.heap) (hbl : b < s.heap.size) (hG : G.2.2.1 = s.heap.size) (hL : L ≤ 3584) (hi : i + 6 < L) (hc : cells + 3 ≤ 600000) (hs0 : slots + 20 ≤ 7302250) (kk : lw_C RR p l e s m below meth c b G i (cells + 3) (slots + 20) Q 890) : lw_C RR p l e s m below meth c b G i cells slots Q 532 := by
  intro ad nA nK E I J H locs ls hR hW hS hl
  have hx := X.1.1
  have hb := X.1.2.1
  have hs := R.ks hR
  refine lv_aload_n hx hb dL_law_532 rfl (lv_at hl 2 rfl) ?_
  refine lv_aload_n hx hb dL_law_533 rfl (lv_at hl 3 rfl) ?_
  refine lv_iload_n hx hb dL_law_534 rfl (lv_at hl 0 rfl) ?_
  refine lv_iconst (v := 1) hx hb dL_law_535 (by decide) ?_
  refine lw_iaddN (a := i) (b := 1) hx hb dL_law_536 ?_
  refine lw_sld X hX hbl hG hS hL (i := i + 1) (by omega) dL_law_537 ?_
  refine lv_aload_n hx hb dL_law_538 rfl (lv_at hl 3 rfl) ?_
  refine lv_iload_n hx hb dL_law_539 rfl (lv_at hl 0 rfl) ?_
  refine lv_iconst (v := 2) hx hb dL_law_540 (by decide) ?_
  refine lw_iaddN (a := i) (b := 2) hx hb dL_law_541 ?_
  refine lw_sld X hX hbl hG hS hL (i := i + 2) (by omega) dL_law_542 ?_
  have hst := R.told (nA := nA) (nK := nK) (E := E) (I := I) (J := J) (xs (i + 1)) (xs (i + 2)) hR
  refine w_cV1 X hS (m_X4_told l G ad nA nK I J (xs (i + 1)) (xs (i + 2)) hs) rfl rfl g328 g1 g325 g326 g327 hd_X4_told ⟨Nat.le_of_ble_eq_true rfl, Nat.le_of_ble_eq_true rfl⟩ (k_rec X hW 0 0 Nat.zero_lt_one rfl rfl) hW hl.1 rfl (Nat.le_of_ble_eq_true rfl) dL_law_543 (show _ ≤ 600000 by omega) (show _ ≤ 7302250 by omega) (fun H locs hW hS => ?_)
  obtain ⟨cv, ecv⟩ : ∃ z, z = (cTold nA I (xs (i + 1)) (xs (i + 2))) := ⟨_, rfl⟩
  have hm : m_S nA nK E I := hst.1
  obtain ⟨nA1, enA⟩ : ∃ z, z = nA := ⟨_, rfl⟩
  obtain ⟨nK1, enK⟩ : ∃ z, z = nK := ⟨_, rfl⟩
  have hW : Wd G ad nA1 nK1 I J H := by rw [enA, enK]; exact hW
  rw [← ecv]
  refine lv_aload_n hx hb dL_law_546 rfl (lv_at hl 1 rfl) ?_
  refine lv_aload_n hx hb dL_law_547 rfl (lv_at hl 3 rfl) ?_
  refine lv_iload_n hx hb dL_law_548 rfl (lv_at hl 0 rfl) ?_
  refine lv_iconst (v := 1) hx hb dL_law_549 (by decide) ?_
  refine lw_iaddN (a := i) (b := 1) hx hb dL_law_550 ?_
  refine lw_sld X hX hbl hG hS hL (i := i + 1) (by omega) dL_law_551 ?_
  refine lv_aload_n hx hb dL_law_552 rfl (lv_at hl 3 rfl) ?_
  refine lv_iload_n hx hb dL_law_553 rfl (lv_at hl 0 rfl) ?_
  refine lv_iconst (v := 2) hx hb dL_law_554 (by decide) ?_
  refine lw_iaddN (a := i) (b := 2) hx hb dL_law_555 ?_
  refine lw_sld X hX hbl hG hS hL (i := i + 2) (by omega) dL_law_556 ?_
  refine w_cV1 X hS (m_X5_told l G ad nA1 nK1 nA nK E I J (xs (i + 1)) (xs (i + 2)) hm) rfl rfl g670 g4 g667 g668 g669 hd_X5_told ⟨Nat.le_of_ble_eq_true rfl, Nat.le_of_ble_eq_true rfl⟩ (k_rec X hW 13 0 Nat.zero_lt_one rfl rfl) hW hl.1 rfl (Nat.le_of_ble_eq_true rfl) dL_law_557 (show _ ≤ 600000 by omega) (show _ ≤ 7302250 by omega) (fun H locs hW hS => ?_)
  obtain ⟨_, hv, E1, hR1⟩ := hst
  refine lv_icmp_eq (tgt := 890) hx hb dL_law_560 (by decide) (fun _ => ?_) (fun c_ => absurd (by rw [ecv, hv]) c_)
  refine W.widen (k := cells + 3) (n := slots + 20) (by omega) (by omega) ?_
  exact kk ad _ _ E1 _ _ H locs ls hR1 (hW.to3 enA enK rfl rfl) hS hl
set_option maxHeartbeats 2000000 in
set_option maxRecDepth 100000 in
theorem lw_op11 {RR : Nat → Nat → (Nat → Nat) → k_I → k_J → Prop} (R : k_Rel RR) {p : Program} {l : Launch} {e : Env} {s : State} {m : MethodId} {below : List Frame} {meth : Method} {c : Code} {b L : Nat} {xs : Nat → Int32} {G : k_G} {cells slots i : Nat} {Q : State → Prop} (X : k_X p m c cL_law 4 s #[Value.ref b] "AnswerKeeperLaw" G) (hX : va_X b L xs s s.heap) (hbl : b < s.heap.size) (hG : G.2.2.1 = s.heap.size) (hL : L ≤ 3584) (hi : i + 6 < L) (hc : cells + 3 ≤ 600000) (hs0 : slots + 20 ≤ 7302250) (kk : lw_C RR p l e s m below meth c b G i (cells + 3) (slots + 20) Q 890) : lw_C RR p l e s m below meth c b G i cells slots Q 565 := by
  intro ad nA nK E I J H locs ls hR hW hS hl
  have hx := X.1.1
  have hb := X.1.2.1
  have hs := R.ks hR
  refine lv_aload_n hx hb dL_law_565 rfl (lv_at hl 2 rfl) ?_
  refine lv_aload_n hx hb dL_law_566 rfl (lv_at hl 3 rfl) ?_
  refine lv_iload_n hx hb dL_law_567 rfl (lv_at hl 0 rfl) ?_
  refine lv_iconst (v := 1) hx hb dL_law_568 (by decide) ?_
  refine lw_iaddN (a := i) (b := 1) hx hb dL_law_569 ?_
  refine lw_sld X hX hbl hG hS hL (i := i + 1) (by omega) dL_law_570 ?_
  have hst := R.words (nA := nA) (nK := nK) (E := E) (I := I) (J := J) (xs (i + 1)) hR
  refine w_cV1 X hS (m_X4_words l G ad nA nK I J (xs (i + 1)) hs) rfl rfl g340 g1 g337 g338 g339 hd_X4_words ⟨Nat.le_of_ble_eq_true rfl, Nat.le_of_ble_eq_true rfl⟩ (k_rec X hW 0 0 Nat.zero_lt_one rfl rfl) hW hl.1 rfl (Nat.le_of_ble_eq_true rfl) dL_law_571 (show _ ≤ 600000 by omega) (show _ ≤ 7302250 by omega) (fun H locs hW hS => ?_)
  obtain ⟨cv, ecv⟩ : ∃ z, z = (cWords nA J (xs (i + 1))) := ⟨_, rfl⟩
  have hm : m_S nA nK E I := hst.1
  obtain ⟨nA1, enA⟩ : ∃ z, z = nA := ⟨_, rfl⟩
  obtain ⟨nK1, enK⟩ : ∃ z, z = nK := ⟨_, rfl⟩
  have hW : Wd G ad nA1 nK1 I J H := by rw [enA, enK]; exact hW
  rw [← ecv]
  refine lv_aload_n hx hb dL_law_574 rfl (lv_at hl 1 rfl) ?_
  refine lv_aload_n hx hb dL_law_575 rfl (lv_at hl 3 rfl) ?_
  refine lv_iload_n hx hb dL_law_576 rfl (lv_at hl 0 rfl) ?_
  refine lv_iconst (v := 1) hx hb dL_law_577 (by decide) ?_
  refine lw_iaddN (a := i) (b := 1) hx hb dL_law_578 ?_
  refine lw_sld X hX hbl hG hS hL (i := i + 1) (by omega) dL_law_579 ?_
  refine w_cV1 X hS (m_X5_words l G ad nA1 nK1 nA nK E I J (xs (i + 1)) hm) rfl rfl g679 g4 g676 g677 g678 hd_X5_words ⟨Nat.le_of_ble_eq_true rfl, Nat.le_of_ble_eq_true rfl⟩ (k_rec X hW 13 0 Nat.zero_lt_one rfl rfl) hW hl.1 rfl (Nat.le_of_ble_eq_true rfl) dL_law_580 (show _ ≤ 600000 by omega) (show _ ≤ 7302250 by omega) (fun H locs hW hS => ?_)
  refine W.lcmp hx hb dL_law_583 ?_
  obtain ⟨_, hv, E1, hR1⟩ := hst
  refine lv_if_eq (tgt := 890) hx hb dL_law_584 (by decide) (fun _ => ?_) (fun c_ => absurd (by rw [ecv, hv, lg_cmp_eq]) c_)
  refine W.widen (k := cells + 3) (n := slots + 20) (by omega) (by omega) ?_
  exact kk ad _ _ E1 _ _ H locs ls hR1 (hW.to3 enA enK rfl rfl) hS hl
set_option maxHeartbeats 2000000 in
set_option maxRecDepth 100000 in
theorem lw_op12 {RR : Nat → Nat → (Nat → Nat) → k_I → k_J → Prop} (R : k_Rel RR) {p : Program} {l : Launch} {e : Env} {s : State} {m : MethodId} {below : List Frame} {meth : Method} {c : Code} {b L : Nat} {xs : Nat → Int32} {G : k_G} {cells slots i : Nat} {Q : State → Prop} (X : k_X p m c cL_law 4 s #[Value.ref b] "AnswerKeeperLaw" G) (hX : va_X b L xs s s.heap) (hbl : b < s.heap.size) (hG : G.2.2.1 = s.heap.size) (hL : L ≤ 3584) (hi : i + 6 < L) (hc : cells + 3 ≤ 600000) (hs0 : slots + 20 ≤ 7302250) (kk : lw_C RR p l e s m below meth c b G i (cells + 3) (slots + 20) Q 890) : lw_C RR p l e s m below meth c b G i cells slots Q 589 := by
  intro ad nA nK E I J H locs ls hR hW hS hl
  have hx := X.1.1
  have hb := X.1.2.1
  have hs := R.ks hR
  refine lv_aload_n hx hb dL_law_589 rfl (lv_at hl 2 rfl) ?_
  refine lv_aload_n hx hb dL_law_590 rfl (lv_at hl 3 rfl) ?_
  refine lv_iload_n hx hb dL_law_591 rfl (lv_at hl 0 rfl) ?_
  refine lv_iconst (v := 1) hx hb dL_law_592 (by decide) ?_
  refine lw_iaddN (a := i) (b := 1) hx hb dL_law_593 ?_
  refine lw_sld X hX hbl hG hS hL (i := i + 1) (by omega) dL_law_594 ?_
  refine lv_aload_n hx hb dL_law_595 rfl (lv_at hl 3 rfl) ?_
  refine lv_iload_n hx hb dL_law_596 rfl (lv_at hl 0 rfl) ?_
  refine lv_iconst (v := 2) hx hb dL_law_597 (by decide) ?_
  refine lw_iaddN (a := i) (b := 2) hx hb dL_law_598 ?_
  refine lw_sld X hX hbl hG hS hL (i := i + 2) (by omega) dL_law_599 ?_
  refine lv_aload_n hx hb dL_law_600 rfl (lv_at hl 3 rfl) ?_
  refine lv_iload_n hx hb dL_law_601 rfl (lv_at hl 0 rfl) ?_
  refine lv_iconst (v := 3) hx hb dL_law_602 (by decide) ?_
  refine lw_iaddN (a := i) (b := 3) hx hb dL_law_603 ?_
  refine lw_sld X hX hbl hG hS hL (i := i + 3) (by omega) dL_law_604 ?_
  refine lv_aload_n hx hb dL_law_605 rfl (lv_at hl 3 rfl) ?_
  refine lv_iload_n hx hb dL_law_606 rfl (lv_at hl 0 rfl) ?_
  refine lv_iconst (v := 4) hx hb dL_law_607 (by decide) ?_
  refine lw_iaddN (a := i) (b := 4) hx hb dL_law_608 ?_
  refine lw_sld X hX hbl hG hS hL (i := i + 4) (by omega) dL_law_609 ?_
  have hst := R.holds (nA := nA) (nK := nK) (E := E) (I := I) (J := J) (xs (i + 1)) (xs (i + 2)) (xs (i + 3)) (xs (i + 4)) hR
  refine w_cV1 X hS (m_X4_holds l G ad nA nK I J (xs (i + 1)) (xs (i + 2)) (xs (i + 3)) (xs (i + 4)) hs) rfl rfl g345 g1 g342 g343 g344 hd_X4_holds ⟨Nat.le_of_ble_eq_true rfl, Nat.le_of_ble_eq_true rfl⟩ (k_rec X hW 0 0 Nat.zero_lt_one rfl rfl) hW hl.1 rfl (Nat.le_of_ble_eq_true rfl) dL_law_610 (show _ ≤ 600000 by omega) (show _ ≤ 7302250 by omega) (fun H locs hW hS => ?_)
  obtain ⟨cv, ecv⟩ : ∃ z, z = (cHolds nA I (xs (i + 1)) (xs (i + 2)) (xs (i + 3)) (xs (i + 4))) := ⟨_, rfl⟩
  have hm : m_S nA nK E I := hst.1
  obtain ⟨nA1, enA⟩ : ∃ z, z = nA := ⟨_, rfl⟩
  obtain ⟨nK1, enK⟩ : ∃ z, z = nK := ⟨_, rfl⟩
  have hW : Wd G ad nA1 nK1 I J H := by rw [enA, enK]; exact hW
  rw [← ecv]
  refine lv_aload_n hx hb dL_law_613 rfl (lv_at hl 1 rfl) ?_
  refine lv_aload_n hx hb dL_law_614 rfl (lv_at hl 3 rfl) ?_
  refine lv_iload_n hx hb dL_law_615 rfl (lv_at hl 0 rfl) ?_
  refine lv_iconst (v := 1) hx hb dL_law_616 (by decide) ?_
  refine lw_iaddN (a := i) (b := 1) hx hb dL_law_617 ?_
  refine lw_sld X hX hbl hG hS hL (i := i + 1) (by omega) dL_law_618 ?_
  refine lv_aload_n hx hb dL_law_619 rfl (lv_at hl 3 rfl) ?_
  refine lv_iload_n hx hb dL_law_620 rfl (lv_at hl 0 rfl) ?_
  refine lv_iconst (v := 2) hx hb dL_law_621 (by decide) ?_
  refine lw_iaddN (a := i) (b := 2) hx hb dL_law_622 ?_
  refine lw_sld X hX hbl hG hS hL (i := i + 2) (by omega) dL_law_623 ?_
  refine lv_aload_n hx hb dL_law_624 rfl (lv_at hl 3 rfl) ?_
  refine lv_iload_n hx hb dL_law_625 rfl (lv_at hl 0 rfl) ?_
  refine lv_iconst (v := 3) hx hb dL_law_626 (by decide) ?_
  refine lw_iaddN (a := i) (b := 3) hx hb dL_law_627 ?_
  refine lw_sld X hX hbl hG hS hL (i := i + 3) (by omega) dL_law_628 ?_
  refine lv_aload_n hx hb dL_law_629 rfl (lv_at hl 3 rfl) ?_
  refine lv_iload_n hx hb dL_law_630 rfl (lv_at hl 0 rfl) ?_
  refine lv_iconst (v := 4) hx hb dL_law_631 (by decide) ?_
  refine lw_iaddN (a := i) (b := 4) hx hb dL_law_632 ?_
  refine lw_sld X hX hbl hG hS hL (i := i + 4) (by omega) dL_law_633 ?_
  refine w_cV1 X hS (m_X5_holds l G ad nA1 nK1 nA nK E I J (xs (i + 1)) (xs (i + 2)) (xs (i + 3)) (xs (i + 4)) hm) rfl rfl g684 g4 g681 g682 g683 hd_X5_holds ⟨Nat.le_of_ble_eq_true rfl, Nat.le_of_ble_eq_true rfl⟩ (k_rec X hW 13 0 Nat.zero_lt_one rfl rfl) hW hl.1 rfl (Nat.le_of_ble_eq_true rfl) dL_law_634 (show _ ≤ 600000 by omega) (show _ ≤ 7302250 by omega) (fun H locs hW hS => ?_)
  obtain ⟨_, hv, E1, hR1⟩ := hst
  refine lv_icmp_eq (tgt := 890) hx hb dL_law_637 (by decide) (fun _ => ?_) (fun c_ => absurd (by rw [ecv, hv]) c_)
  refine W.widen (k := cells + 3) (n := slots + 20) (by omega) (by omega) ?_
  exact kk ad _ _ E1 _ _ H locs ls hR1 (hW.to3 enA enK rfl rfl) hS hl
set_option maxHeartbeats 2000000 in
set_option maxRecDepth 100000 in
theorem lw_op13 {RR : Nat → Nat → (Nat → Nat) → k_I → k_J → Prop} (R : k_Rel RR) {p : Program} {l : Launch} {e : Env} {s : State} {m : MethodId} {below : List Frame} {meth : Method} {c : Code} {b L : Nat} {xs : Nat → Int32} {G : k_G} {cells slots i : Nat} {Q : State → Prop} (X : k_X p m c cL_law 4 s #[Value.ref b] "AnswerKeeperLaw" G) (hX : va_X b L xs s s.heap) (hbl : b < s.heap.size) (hG : G.2.2.1 = s.heap.size) (hL : L ≤ 3584) (hi : i + 6 < L) (hc : cells + 3 ≤ 600000) (hs0 : slots + 20 ≤ 7302250) (kk : lw_C RR p l e s m below meth c b G i (cells + 3) (slots + 20) Q 890) : lw_C RR p l e s m below meth c b G i cells slots Q 642 := by
  intro ad nA nK E I J H locs ls hR hW hS hl
  have hx := X.1.1
  have hb := X.1.2.1
  have hs := R.ks hR
  refine lv_aload_n hx hb dL_law_642 rfl (lv_at hl 2 rfl) ?_
  refine lv_aload_n hx hb dL_law_643 rfl (lv_at hl 3 rfl) ?_
  refine lv_iload_n hx hb dL_law_644 rfl (lv_at hl 0 rfl) ?_
  refine lv_iconst (v := 1) hx hb dL_law_645 (by decide) ?_
  refine lw_iaddN (a := i) (b := 1) hx hb dL_law_646 ?_
  refine lw_sld X hX hbl hG hS hL (i := i + 1) (by omega) dL_law_647 ?_
  have hst := R.count (nA := nA) (nK := nK) (E := E) (I := I) (J := J) (xs (i + 1)) hR
  refine w_cV1 X hS (m_X4_count l G ad nA nK I J (xs (i + 1)) hs) rfl rfl g357 g1 g354 g355 g356 hd_X4_count ⟨Nat.le_of_ble_eq_true rfl, Nat.le_of_ble_eq_true rfl⟩ (k_rec X hW 0 0 Nat.zero_lt_one rfl rfl) hW hl.1 rfl (Nat.le_of_ble_eq_true rfl) dL_law_648 (show _ ≤ 600000 by omega) (show _ ≤ 7302250 by omega) (fun H locs hW hS => ?_)
  obtain ⟨cv, ecv⟩ : ∃ z, z = (cCount nA nK I J (xs (i + 1))) := ⟨_, rfl⟩
  have hm : m_S nA nK E I := hst.1
  obtain ⟨nA1, enA⟩ : ∃ z, z = nA := ⟨_, rfl⟩
  obtain ⟨nK1, enK⟩ : ∃ z, z = nK := ⟨_, rfl⟩
  have hW : Wd G ad nA1 nK1 I J H := by rw [enA, enK]; exact hW
  rw [← ecv]
  refine lv_aload_n hx hb dL_law_651 rfl (lv_at hl 1 rfl) ?_
  refine lv_aload_n hx hb dL_law_652 rfl (lv_at hl 3 rfl) ?_
  refine lv_iload_n hx hb dL_law_653 rfl (lv_at hl 0 rfl) ?_
  refine lv_iconst (v := 1) hx hb dL_law_654 (by decide) ?_
  refine lw_iaddN (a := i) (b := 1) hx hb dL_law_655 ?_
  refine lw_sld X hX hbl hG hS hL (i := i + 1) (by omega) dL_law_656 ?_
  refine w_cV1 X hS (m_X5_count l G ad nA1 nK1 nA nK E I J (xs (i + 1)) hm) rfl rfl g766 g4 g763 g764 g765 hd_X5_count ⟨Nat.le_of_ble_eq_true rfl, Nat.le_of_ble_eq_true rfl⟩ (k_rec X hW 13 0 Nat.zero_lt_one rfl rfl) hW hl.1 rfl (Nat.le_of_ble_eq_true rfl) dL_law_657 (show _ ≤ 600000 by omega) (show _ ≤ 7302250 by omega) (fun H locs hW hS => ?_)
  obtain ⟨_, hv, E1, hR1⟩ := hst
  refine lv_icmp_eq (tgt := 890) hx hb dL_law_660 (by decide) (fun _ => ?_) (fun c_ => absurd (by rw [ecv, hv]) c_)
  refine W.widen (k := cells + 3) (n := slots + 20) (by omega) (by omega) ?_
  exact kk ad _ _ E1 _ _ H locs ls hR1 (hW.to3 enA enK rfl rfl) hS hl
set_option maxHeartbeats 2000000 in
set_option maxRecDepth 100000 in
theorem lw_op14 {RR : Nat → Nat → (Nat → Nat) → k_I → k_J → Prop} (R : k_Rel RR) {p : Program} {l : Launch} {e : Env} {s : State} {m : MethodId} {below : List Frame} {meth : Method} {c : Code} {b L : Nat} {xs : Nat → Int32} {G : k_G} {cells slots i : Nat} {Q : State → Prop} (X : k_X p m c cL_law 4 s #[Value.ref b] "AnswerKeeperLaw" G) (hX : va_X b L xs s s.heap) (hbl : b < s.heap.size) (hG : G.2.2.1 = s.heap.size) (hL : L ≤ 3584) (hi : i + 6 < L) (hc : cells + 3 ≤ 600000) (hs0 : slots + 20 ≤ 7302250) (kk : lw_C RR p l e s m below meth c b G i (cells + 3) (slots + 20) Q 890) : lw_C RR p l e s m below meth c b G i cells slots Q 665 := by
  intro ad nA nK E I J H locs ls hR hW hS hl
  have hx := X.1.1
  have hb := X.1.2.1
  have hs := R.ks hR
  refine lv_aload_n hx hb dL_law_665 rfl (lv_at hl 2 rfl) ?_
  refine lv_aload_n hx hb dL_law_666 rfl (lv_at hl 3 rfl) ?_
  refine lv_iload_n hx hb dL_law_667 rfl (lv_at hl 0 rfl) ?_
  refine lv_iconst (v := 1) hx hb dL_law_668 (by decide) ?_
  refine lw_iaddN (a := i) (b := 1) hx hb dL_law_669 ?_
  refine lw_sld X hX hbl hG hS hL (i := i + 1) (by omega) dL_law_670 ?_
  refine lv_aload_n hx hb dL_law_671 rfl (lv_at hl 3 rfl) ?_
  refine lv_iload_n hx hb dL_law_672 rfl (lv_at hl 0 rfl) ?_
  refine lv_iconst (v := 2) hx hb dL_law_673 (by decide) ?_
  refine lw_iaddN (a := i) (b := 2) hx hb dL_law_674 ?_
  refine lw_sld X hX hbl hG hS hL (i := i + 2) (by omega) dL_law_675 ?_
  have hst := R.quarrel (nA := nA) (nK := nK) (E := E) (I := I) (J := J) (xs (i + 1)) (xs (i + 2)) hR
  refine w_cV1 X hS (m_X4_quarrel l G ad nA nK I J (xs (i + 1)) (xs (i + 2)) hs) rfl rfl g428 g1 g425 g426 g427 hd_X4_quarrel ⟨Nat.le_of_ble_eq_true rfl, Nat.le_of_ble_eq_true rfl⟩ (k_rec X hW 0 0 Nat.zero_lt_one rfl rfl) hW hl.1 rfl (Nat.le_of_ble_eq_true rfl) dL_law_676 (show _ ≤ 600000 by omega) (show _ ≤ 7302250 by omega) (fun H locs hW hS => ?_)
  obtain ⟨cv, ecv⟩ : ∃ z, z = (cQuarrel nA I J (xs (i + 1)) (xs (i + 2))) := ⟨_, rfl⟩
  have hm : m_S nA nK E I := hst.1
  obtain ⟨nA1, enA⟩ : ∃ z, z = nA := ⟨_, rfl⟩
  obtain ⟨nK1, enK⟩ : ∃ z, z = nK := ⟨_, rfl⟩
  have hW : Wd G ad nA1 nK1 I J H := by rw [enA, enK]; exact hW
  rw [← ecv]
  refine lv_aload_n hx hb dL_law_679 rfl (lv_at hl 1 rfl) ?_
  refine lv_aload_n hx hb dL_law_680 rfl (lv_at hl 3 rfl) ?_
  refine lv_iload_n hx hb dL_law_681 rfl (lv_at hl 0 rfl) ?_
  refine lv_iconst (v := 1) hx hb dL_law_682 (by decide) ?_
  refine lw_iaddN (a := i) (b := 1) hx hb dL_law_683 ?_
  refine lw_sld X hX hbl hG hS hL (i := i + 1) (by omega) dL_law_684 ?_
  refine lv_aload_n hx hb dL_law_685 rfl (lv_at hl 3 rfl) ?_
  refine lv_iload_n hx hb dL_law_686 rfl (lv_at hl 0 rfl) ?_
  refine lv_iconst (v := 2) hx hb dL_law_687 (by decide) ?_
  refine lw_iaddN (a := i) (b := 2) hx hb dL_law_688 ?_
  refine lw_sld X hX hbl hG hS hL (i := i + 2) (by omega) dL_law_689 ?_
  refine w_cV1 X hS (m_X5_quarrel l G ad nA1 nK1 nA nK E I J (xs (i + 1)) (xs (i + 2)) hm) rfl rfl g693 g4 g690 g691 g692 hd_X5_quarrel ⟨Nat.le_of_ble_eq_true rfl, Nat.le_of_ble_eq_true rfl⟩ (k_rec X hW 13 0 Nat.zero_lt_one rfl rfl) hW hl.1 rfl (Nat.le_of_ble_eq_true rfl) dL_law_690 (show _ ≤ 600000 by omega) (show _ ≤ 7302250 by omega) (fun H locs hW hS => ?_)
  obtain ⟨_, hv, E1, hR1⟩ := hst
  refine lv_icmp_eq (tgt := 890) hx hb dL_law_693 (by decide) (fun _ => ?_) (fun c_ => absurd (by rw [ecv, hv]) c_)
  refine W.widen (k := cells + 3) (n := slots + 20) (by omega) (by omega) ?_
  exact kk ad _ _ E1 _ _ H locs ls hR1 (hW.to3 enA enK rfl rfl) hS hl
set_option maxHeartbeats 2000000 in
set_option maxRecDepth 100000 in
theorem lw_op15 {RR : Nat → Nat → (Nat → Nat) → k_I → k_J → Prop} (R : k_Rel RR) {p : Program} {l : Launch} {e : Env} {s : State} {m : MethodId} {below : List Frame} {meth : Method} {c : Code} {b L : Nat} {xs : Nat → Int32} {G : k_G} {cells slots i : Nat} {Q : State → Prop} (X : k_X p m c cL_law 4 s #[Value.ref b] "AnswerKeeperLaw" G) (hX : va_X b L xs s s.heap) (hbl : b < s.heap.size) (hG : G.2.2.1 = s.heap.size) (hL : L ≤ 3584) (hi : i + 6 < L) (hc : cells + 3 ≤ 600000) (hs0 : slots + 20 ≤ 7302250) (kk : lw_C RR p l e s m below meth c b G i (cells + 3) (slots + 20) Q 890) : lw_C RR p l e s m below meth c b G i cells slots Q 698 := by
  intro ad nA nK E I J H locs ls hR hW hS hl
  have hx := X.1.1
  have hb := X.1.2.1
  have hs := R.ks hR
  refine lv_aload_n hx hb dL_law_698 rfl (lv_at hl 2 rfl) ?_
  refine lv_aload_n hx hb dL_law_699 rfl (lv_at hl 3 rfl) ?_
  refine lv_iload_n hx hb dL_law_700 rfl (lv_at hl 0 rfl) ?_
  refine lv_iconst (v := 1) hx hb dL_law_701 (by decide) ?_
  refine lw_iaddN (a := i) (b := 1) hx hb dL_law_702 ?_
  refine lw_sld X hX hbl hG hS hL (i := i + 1) (by omega) dL_law_703 ?_
  refine lv_i2l (v := Int32.toInt64 (xs (i + 1))) hx hb dL_law_704 rfl ?_
  refine lv_bipush (v := 32) hx hb dL_law_705 (by decide) ?_
  refine lv_lshl (v := (Int32.toInt64 (xs (i + 1))) <<< (Int32.toInt64 32 &&& 63)) hx hb dL_law_707 rfl ?_
  refine lv_aload_n hx hb dL_law_708 rfl (lv_at hl 3 rfl) ?_
  refine lv_iload_n hx hb dL_law_709 rfl (lv_at hl 0 rfl) ?_
  refine lv_iconst (v := 2) hx hb dL_law_710 (by decide) ?_
  refine lw_iaddN (a := i) (b := 2) hx hb dL_law_711 ?_
  refine lw_sld X hX hbl hG hS hL (i := i + 2) (by omega) dL_law_712 ?_
  refine lv_i2l (v := Int32.toInt64 (xs (i + 2))) hx hb dL_law_713 rfl ?_
  refine lv_ldc2 hx hb X.1.2.2.2.1 (X.1.2.2.2.2 _ g772) dL_law_714 ?_
  refine lv_land hx hb dL_law_717 ?_
  refine lv_lor hx hb dL_law_718 ?_
  refine lv_topl (fun w1 ew1 => ?_)
  refine lv_aload_n hx hb dL_law_719 rfl (lv_at hl 3 rfl) ?_
  refine lv_iload_n hx hb dL_law_720 rfl (lv_at hl 0 rfl) ?_
  refine lv_iconst (v := 3) hx hb dL_law_721 (by decide) ?_
  refine lw_iaddN (a := i) (b := 3) hx hb dL_law_722 ?_
  refine lw_sld X hX hbl hG hS hL (i := i + 3) (by omega) dL_law_723 ?_
  refine lv_aload_n hx hb dL_law_724 rfl (lv_at hl 3 rfl) ?_
  refine lv_iload_n hx hb dL_law_725 rfl (lv_at hl 0 rfl) ?_
  refine lv_iconst (v := 4) hx hb dL_law_726 (by decide) ?_
  refine lw_iaddN (a := i) (b := 4) hx hb dL_law_727 ?_
  refine lw_sld X hX hbl hG hS hL (i := i + 4) (by omega) dL_law_728 ?_
  refine lv_aload_n hx hb dL_law_729 rfl (lv_at hl 3 rfl) ?_
  refine lv_iload_n hx hb dL_law_730 rfl (lv_at hl 0 rfl) ?_
  refine lv_iconst (v := 5) hx hb dL_law_731 (by decide) ?_
  refine lw_iaddN (a := i) (b := 5) hx hb dL_law_732 ?_
  refine lw_sld X hX hbl hG hS hL (i := i + 5) (by omega) dL_law_733 ?_
  have hst := R.ask (nA := nA) (nK := nK) (E := E) (I := I) (J := J) (w1) (xs (i + 3)) (xs (i + 4)) (xs (i + 5)) hR
  refine w_cV X hS (m_X4_ask l G ad nA nK I J (w1) (xs (i + 3)) (xs (i + 4)) (xs (i + 5)) hs (R.z7 hR)) g439 g1 g436 g437 g438 hd_X4_ask ⟨Nat.le_of_ble_eq_true rfl, Nat.le_of_ble_eq_true rfl⟩ (k_rec X hW 0 0 Nat.zero_lt_one rfl rfl) hW hl.1 rfl (Nat.le_of_ble_eq_true rfl) dL_law_734 ⟨(show cells + 2 ≤ 600000 by omega), (show slots + 6 ≤ 7302250 by omega)⟩ (fun H locs hB hS => ?_)
  refine W.cs (cells' := cells + 2) (slots' := slots + 6) rfl rfl ?_
  obtain ⟨ad1, hold, hW⟩ := hB
  have hl : lv_has ls 4 [(3, .int (nI i)), (2, .ref (ad1 13 0)), (1, .ref (ad1 0 0)), (0, .ref b)] := by rw [hold 13 0 Nat.zero_lt_one, hold 0 0 Nat.zero_lt_one]; exact hl
  clear hold
  obtain ⟨ad, ead⟩ : ∃ z, z = ad1 := ⟨_, rfl⟩
  rw [← ead] at hl hW
  obtain ⟨cv, ecv⟩ : ∃ z, z = (cAsk nA nK (w1) (xs (i + 3)) (xs (i + 4)) (xs (i + 5)) (I, J)).1 := ⟨_, rfl⟩
  obtain ⟨I1, eI1⟩ : ∃ z, z = (cAsk nA nK (w1) (xs (i + 3)) (xs (i + 4)) (xs (i + 5)) (I, J)).2.2.1 := ⟨_, rfl⟩
  obtain ⟨J1, eJ1⟩ : ∃ z, z = (cAsk nA nK (w1) (xs (i + 3)) (xs (i + 4)) (xs (i + 5)) (I, J)).2.2.2 := ⟨_, rfl⟩
  have e12 : (cAsk nA nK (w1) (xs (i + 3)) (xs (i + 4)) (xs (i + 5)) (I, J)).2.2 = (I1, J1) := by rw [eI1, eJ1]
  rw [e12] at hst
  have hm : m_S nA nK E I1 := hst.1
  obtain ⟨nA1, enA⟩ : ∃ z, z = nA := ⟨_, rfl⟩
  obtain ⟨nK1, enK⟩ : ∃ z, z = (cAsk nA nK (w1) (xs (i + 3)) (xs (i + 4)) (xs (i + 5)) (I, J)).2.1 := ⟨_, rfl⟩
  have hW : Wd G ad nA1 nK1 I1 J1 H := by rw [enA, enK, eI1, eJ1]; exact hW
  rw [← ecv]
  refine lv_aload_n hx hb dL_law_737 rfl (lv_at hl 1 rfl) ?_
  refine lv_aload_n hx hb dL_law_738 rfl (lv_at hl 3 rfl) ?_
  refine lv_iload_n hx hb dL_law_739 rfl (lv_at hl 0 rfl) ?_
  refine lv_iconst (v := 1) hx hb dL_law_740 (by decide) ?_
  refine lw_iaddN (a := i) (b := 1) hx hb dL_law_741 ?_
  refine lw_sld X hX hbl hG hS hL (i := i + 1) (by omega) dL_law_742 ?_
  refine lv_i2l (v := Int32.toInt64 (xs (i + 1))) hx hb dL_law_743 rfl ?_
  refine lv_bipush (v := 32) hx hb dL_law_744 (by decide) ?_
  refine lv_lshl (v := (Int32.toInt64 (xs (i + 1))) <<< (Int32.toInt64 32 &&& 63)) hx hb dL_law_746 rfl ?_
  refine lv_aload_n hx hb dL_law_747 rfl (lv_at hl 3 rfl) ?_
  refine lv_iload_n hx hb dL_law_748 rfl (lv_at hl 0 rfl) ?_
  refine lv_iconst (v := 2) hx hb dL_law_749 (by decide) ?_
  refine lw_iaddN (a := i) (b := 2) hx hb dL_law_750 ?_
  refine lw_sld X hX hbl hG hS hL (i := i + 2) (by omega) dL_law_751 ?_
  refine lv_i2l (v := Int32.toInt64 (xs (i + 2))) hx hb dL_law_752 rfl ?_
  refine lv_ldc2 hx hb X.1.2.2.2.1 (X.1.2.2.2.2 _ g772) dL_law_753 ?_
  refine lv_land hx hb dL_law_756 ?_
  refine lv_lor hx hb dL_law_757 ?_
  refine lv_topl (fun w2 ew2 => ?_)
  have ew3 : w1 = w2 := ew1.trans ew2.symm
  subst ew3
  refine lv_aload_n hx hb dL_law_758 rfl (lv_at hl 3 rfl) ?_
  refine lv_iload_n hx hb dL_law_759 rfl (lv_at hl 0 rfl) ?_
  refine lv_iconst (v := 3) hx hb dL_law_760 (by decide) ?_
  refine lw_iaddN (a := i) (b := 3) hx hb dL_law_761 ?_
  refine lw_sld X hX hbl hG hS hL (i := i + 3) (by omega) dL_law_762 ?_
  refine lv_aload_n hx hb dL_law_763 rfl (lv_at hl 3 rfl) ?_
  refine lv_iload_n hx hb dL_law_764 rfl (lv_at hl 0 rfl) ?_
  refine lv_iconst (v := 4) hx hb dL_law_765 (by decide) ?_
  refine lw_iaddN (a := i) (b := 4) hx hb dL_law_766 ?_
  refine lw_sld X hX hbl hG hS hL (i := i + 4) (by omega) dL_law_767 ?_
  refine lv_aload_n hx hb dL_law_768 rfl (lv_at hl 3 rfl) ?_
  refine lv_iload_n hx hb dL_law_769 rfl (lv_at hl 0 rfl) ?_
  refine lv_iconst (v := 5) hx hb dL_law_770 (by decide) ?_
  refine lw_iaddN (a := i) (b := 5) hx hb dL_law_771 ?_
  refine lw_sld X hX hbl hG hS hL (i := i + 5) (by omega) dL_law_772 ?_
  refine w_cV1 X hS (m_X5_ask l G ad nA1 nK1 nA nK E I1 J1 (w1) (xs (i + 3)) (xs (i + 4)) (xs (i + 5)) hm) rfl rfl g716 g4 g713 g714 g715 hd_X5_ask ⟨Nat.le_of_ble_eq_true rfl, Nat.le_of_ble_eq_true rfl⟩ (k_rec X hW 13 0 Nat.zero_lt_one rfl rfl) hW hl.1 rfl (Nat.le_of_ble_eq_true rfl) dL_law_773 (show _ ≤ 600000 by omega) (show _ ≤ 7302250 by omega) (fun H locs hW hS => ?_)
  obtain ⟨_, hv, E1, hR1⟩ := hst
  refine lv_icmp_eq (tgt := 890) hx hb dL_law_776 (by decide) (fun _ => ?_) (fun c_ => absurd (by rw [ecv, hv]) c_)
  refine W.widen (k := cells + 3) (n := slots + 20) (by omega) (by omega) ?_
  exact kk ad _ _ E1 _ _ H locs ls hR1 (hW.to3 enA enK rfl rfl) hS hl
set_option maxHeartbeats 2000000 in
set_option maxRecDepth 100000 in
theorem lw_op16 {RR : Nat → Nat → (Nat → Nat) → k_I → k_J → Prop} (R : k_Rel RR) {p : Program} {l : Launch} {e : Env} {s : State} {m : MethodId} {below : List Frame} {meth : Method} {c : Code} {b L : Nat} {xs : Nat → Int32} {G : k_G} {cells slots i : Nat} {Q : State → Prop} (X : k_X p m c cL_law 4 s #[Value.ref b] "AnswerKeeperLaw" G) (hX : va_X b L xs s s.heap) (hbl : b < s.heap.size) (hG : G.2.2.1 = s.heap.size) (hL : L ≤ 3584) (hi : i + 6 < L) (hc : cells + 3 ≤ 600000) (hs0 : slots + 20 ≤ 7302250) (kk : lw_C RR p l e s m below meth c b G i (cells + 3) (slots + 20) Q 890) : lw_C RR p l e s m below meth c b G i cells slots Q 781 := by
  intro ad nA nK E I J H locs ls hR hW hS hl
  have hx := X.1.1
  have hb := X.1.2.1
  have hs := R.ks hR
  refine lv_aload_n hx hb dL_law_781 rfl (lv_at hl 2 rfl) ?_
  refine lv_aload_n hx hb dL_law_782 rfl (lv_at hl 3 rfl) ?_
  refine lv_iload_n hx hb dL_law_783 rfl (lv_at hl 0 rfl) ?_
  refine lv_iconst (v := 1) hx hb dL_law_784 (by decide) ?_
  refine lw_iaddN (a := i) (b := 1) hx hb dL_law_785 ?_
  refine lw_sld X hX hbl hG hS hL (i := i + 1) (by omega) dL_law_786 ?_
  refine lv_aload_n hx hb dL_law_787 rfl (lv_at hl 3 rfl) ?_
  refine lv_iload_n hx hb dL_law_788 rfl (lv_at hl 0 rfl) ?_
  refine lv_iconst (v := 2) hx hb dL_law_789 (by decide) ?_
  refine lw_iaddN (a := i) (b := 2) hx hb dL_law_790 ?_
  refine lw_sld X hX hbl hG hS hL (i := i + 2) (by omega) dL_law_791 ?_
  refine lv_aload_n hx hb dL_law_792 rfl (lv_at hl 3 rfl) ?_
  refine lv_iload_n hx hb dL_law_793 rfl (lv_at hl 0 rfl) ?_
  refine lv_iconst (v := 3) hx hb dL_law_794 (by decide) ?_
  refine lw_iaddN (a := i) (b := 3) hx hb dL_law_795 ?_
  refine lw_sld X hX hbl hG hS hL (i := i + 3) (by omega) dL_law_796 ?_
  have hst := R.found (nA := nA) (nK := nK) (E := E) (I := I) (J := J) (xs (i + 1)) (xs (i + 2)) (xs (i + 3)) hR
  refine w_cV1 X hS (m_X4_found l G ad nA nK I J (xs (i + 1)) (xs (i + 2)) (xs (i + 3)) hs) rfl rfl g463 g1 g460 g461 g462 hd_X4_found ⟨Nat.le_of_ble_eq_true rfl, Nat.le_of_ble_eq_true rfl⟩ (k_rec X hW 0 0 Nat.zero_lt_one rfl rfl) hW hl.1 rfl (Nat.le_of_ble_eq_true rfl) dL_law_797 (show _ ≤ 600000 by omega) (show _ ≤ 7302250 by omega) (fun H locs hW hS => ?_)
  obtain ⟨cv, ecv⟩ : ∃ z, z = (cFound nA nK I J (xs (i + 1)) (xs (i + 2)) (xs (i + 3))) := ⟨_, rfl⟩
  have hm : m_S nA nK E I := hst.1
  obtain ⟨nA1, enA⟩ : ∃ z, z = nA := ⟨_, rfl⟩
  obtain ⟨nK1, enK⟩ : ∃ z, z = nK := ⟨_, rfl⟩
  have hW : Wd G ad nA1 nK1 I J H := by rw [enA, enK]; exact hW
  rw [← ecv]
  refine lv_aload_n hx hb dL_law_800 rfl (lv_at hl 1 rfl) ?_
  refine lv_aload_n hx hb dL_law_801 rfl (lv_at hl 3 rfl) ?_
  refine lv_iload_n hx hb dL_law_802 rfl (lv_at hl 0 rfl) ?_
  refine lv_iconst (v := 1) hx hb dL_law_803 (by decide) ?_
  refine lw_iaddN (a := i) (b := 1) hx hb dL_law_804 ?_
  refine lw_sld X hX hbl hG hS hL (i := i + 1) (by omega) dL_law_805 ?_
  refine lv_aload_n hx hb dL_law_806 rfl (lv_at hl 3 rfl) ?_
  refine lv_iload_n hx hb dL_law_807 rfl (lv_at hl 0 rfl) ?_
  refine lv_iconst (v := 2) hx hb dL_law_808 (by decide) ?_
  refine lw_iaddN (a := i) (b := 2) hx hb dL_law_809 ?_
  refine lw_sld X hX hbl hG hS hL (i := i + 2) (by omega) dL_law_810 ?_
  refine lv_aload_n hx hb dL_law_811 rfl (lv_at hl 3 rfl) ?_
  refine lv_iload_n hx hb dL_law_812 rfl (lv_at hl 0 rfl) ?_
  refine lv_iconst (v := 3) hx hb dL_law_813 (by decide) ?_
  refine lw_iaddN (a := i) (b := 3) hx hb dL_law_814 ?_
  refine lw_sld X hX hbl hG hS hL (i := i + 3) (by omega) dL_law_815 ?_
  refine w_cV1 X hS (m_X5_found l G ad nA1 nK1 nA nK E I J (xs (i + 1)) (xs (i + 2)) (xs (i + 3)) hm) rfl rfl g741 g4 g738 g739 g740 hd_X5_found ⟨Nat.le_of_ble_eq_true rfl, Nat.le_of_ble_eq_true rfl⟩ (k_rec X hW 13 0 Nat.zero_lt_one rfl rfl) hW hl.1 rfl (Nat.le_of_ble_eq_true rfl) dL_law_816 (show _ ≤ 600000 by omega) (show _ ≤ 7302250 by omega) (fun H locs hW hS => ?_)
  obtain ⟨_, hv, E1, hR1⟩ := hst
  refine lv_icmp_eq (tgt := 890) hx hb dL_law_819 (by decide) (fun _ => ?_) (fun c_ => absurd (by rw [ecv, hv]) c_)
  refine W.widen (k := cells + 3) (n := slots + 20) (by omega) (by omega) ?_
  exact kk ad _ _ E1 _ _ H locs ls hR1 (hW.to3 enA enK rfl rfl) hS hl
set_option maxHeartbeats 2000000 in
set_option maxRecDepth 100000 in
theorem lw_op17 {RR : Nat → Nat → (Nat → Nat) → k_I → k_J → Prop} (R : k_Rel RR) {p : Program} {l : Launch} {e : Env} {s : State} {m : MethodId} {below : List Frame} {meth : Method} {c : Code} {b L : Nat} {xs : Nat → Int32} {G : k_G} {cells slots i : Nat} {Q : State → Prop} (X : k_X p m c cL_law 4 s #[Value.ref b] "AnswerKeeperLaw" G) (hX : va_X b L xs s s.heap) (hbl : b < s.heap.size) (hG : G.2.2.1 = s.heap.size) (hL : L ≤ 3584) (hi : i + 6 < L) (hc : cells + 3 ≤ 600000) (hs0 : slots + 20 ≤ 7302250) (kk : lw_C RR p l e s m below meth c b G i (cells + 3) (slots + 20) Q 890) : lw_C RR p l e s m below meth c b G i cells slots Q 824 := by
  intro ad nA nK E I J H locs ls hR hW hS hl
  have hx := X.1.1
  have hb := X.1.2.1
  have hs := R.ks hR
  refine lv_aload_n hx hb dL_law_824 rfl (lv_at hl 2 rfl) ?_
  refine lv_aload_n hx hb dL_law_825 rfl (lv_at hl 3 rfl) ?_
  refine lv_iload_n hx hb dL_law_826 rfl (lv_at hl 0 rfl) ?_
  refine lv_iconst (v := 1) hx hb dL_law_827 (by decide) ?_
  refine lw_iaddN (a := i) (b := 1) hx hb dL_law_828 ?_
  refine lw_sld X hX hbl hG hS hL (i := i + 1) (by omega) dL_law_829 ?_
  refine lv_aload_n hx hb dL_law_830 rfl (lv_at hl 3 rfl) ?_
  refine lv_iload_n hx hb dL_law_831 rfl (lv_at hl 0 rfl) ?_
  refine lv_iconst (v := 2) hx hb dL_law_832 (by decide) ?_
  refine lw_iaddN (a := i) (b := 2) hx hb dL_law_833 ?_
  refine lw_sld X hX hbl hG hS hL (i := i + 2) (by omega) dL_law_834 ?_
  have hst := R.cost (nA := nA) (nK := nK) (E := E) (I := I) (J := J) (xs (i + 1)) (xs (i + 2)) hR
  refine w_cV1 X hS (m_X4_cost l G ad nA nK I J (xs (i + 1)) (xs (i + 2)) hs) rfl rfl g475 g1 g472 g473 g474 hd_X4_cost ⟨Nat.le_of_ble_eq_true rfl, Nat.le_of_ble_eq_true rfl⟩ (k_rec X hW 0 0 Nat.zero_lt_one rfl rfl) hW hl.1 rfl (Nat.le_of_ble_eq_true rfl) dL_law_835 (show _ ≤ 600000 by omega) (show _ ≤ 7302250 by omega) (fun H locs hW hS => ?_)
  obtain ⟨cv, ecv⟩ : ∃ z, z = (cCost nA nK I J (xs (i + 1)) (xs (i + 2))) := ⟨_, rfl⟩
  have hm : m_S nA nK E I := hst.1
  obtain ⟨nA1, enA⟩ : ∃ z, z = nA := ⟨_, rfl⟩
  obtain ⟨nK1, enK⟩ : ∃ z, z = nK := ⟨_, rfl⟩
  have hW : Wd G ad nA1 nK1 I J H := by rw [enA, enK]; exact hW
  rw [← ecv]
  refine lv_aload_n hx hb dL_law_838 rfl (lv_at hl 1 rfl) ?_
  refine lv_aload_n hx hb dL_law_839 rfl (lv_at hl 3 rfl) ?_
  refine lv_iload_n hx hb dL_law_840 rfl (lv_at hl 0 rfl) ?_
  refine lv_iconst (v := 1) hx hb dL_law_841 (by decide) ?_
  refine lw_iaddN (a := i) (b := 1) hx hb dL_law_842 ?_
  refine lw_sld X hX hbl hG hS hL (i := i + 1) (by omega) dL_law_843 ?_
  refine lv_aload_n hx hb dL_law_844 rfl (lv_at hl 3 rfl) ?_
  refine lv_iload_n hx hb dL_law_845 rfl (lv_at hl 0 rfl) ?_
  refine lv_iconst (v := 2) hx hb dL_law_846 (by decide) ?_
  refine lw_iaddN (a := i) (b := 2) hx hb dL_law_847 ?_
  refine lw_sld X hX hbl hG hS hL (i := i + 2) (by omega) dL_law_848 ?_
  refine w_cV1 X hS (m_X5_cost l G ad nA1 nK1 nA nK E I J (xs (i + 1)) (xs (i + 2)) hm) rfl rfl g720 g4 g717 g718 g719 hd_X5_cost ⟨Nat.le_of_ble_eq_true rfl, Nat.le_of_ble_eq_true rfl⟩ (k_rec X hW 13 0 Nat.zero_lt_one rfl rfl) hW hl.1 rfl (Nat.le_of_ble_eq_true rfl) dL_law_849 (show _ ≤ 600000 by omega) (show _ ≤ 7302250 by omega) (fun H locs hW hS => ?_)
  obtain ⟨_, hv, E1, hR1⟩ := hst
  refine lv_icmp_eq (tgt := 890) hx hb dL_law_852 (by decide) (fun _ => ?_) (fun c_ => absurd (by rw [ecv, hv]) c_)
  refine W.widen (k := cells + 3) (n := slots + 20) (by omega) (by omega) ?_
  exact kk ad _ _ E1 _ _ H locs ls hR1 (hW.to3 enA enK rfl rfl) hS hl
set_option maxHeartbeats 2000000 in
set_option maxRecDepth 100000 in
theorem lw_op18 {RR : Nat → Nat → (Nat → Nat) → k_I → k_J → Prop} (R : k_Rel RR) {p : Program} {l : Launch} {e : Env} {s : State} {m : MethodId} {below : List Frame} {meth : Method} {c : Code} {b L : Nat} {xs : Nat → Int32} {G : k_G} {cells slots i : Nat} {Q : State → Prop} (X : k_X p m c cL_law 4 s #[Value.ref b] "AnswerKeeperLaw" G) (hX : va_X b L xs s s.heap) (hbl : b < s.heap.size) (hG : G.2.2.1 = s.heap.size) (hL : L ≤ 3584) (hi : i + 6 < L) (hc : cells + 3 ≤ 600000) (hs0 : slots + 20 ≤ 7302250) (kk : lw_C RR p l e s m below meth c b G i (cells + 3) (slots + 20) Q 890) : lw_C RR p l e s m below meth c b G i cells slots Q 857 := by
  intro ad nA nK E I J H locs ls hR hW hS hl
  have hx := X.1.1
  have hb := X.1.2.1
  have hs := R.ks hR
  refine lv_aload_n hx hb dL_law_857 rfl (lv_at hl 2 rfl) ?_
  refine lv_aload_n hx hb dL_law_858 rfl (lv_at hl 3 rfl) ?_
  refine lv_iload_n hx hb dL_law_859 rfl (lv_at hl 0 rfl) ?_
  refine lv_iconst (v := 1) hx hb dL_law_860 (by decide) ?_
  refine lw_iaddN (a := i) (b := 1) hx hb dL_law_861 ?_
  refine lw_sld X hX hbl hG hS hL (i := i + 1) (by omega) dL_law_862 ?_
  refine lv_aload_n hx hb dL_law_863 rfl (lv_at hl 3 rfl) ?_
  refine lv_iload_n hx hb dL_law_864 rfl (lv_at hl 0 rfl) ?_
  refine lv_iconst (v := 2) hx hb dL_law_865 (by decide) ?_
  refine lw_iaddN (a := i) (b := 2) hx hb dL_law_866 ?_
  refine lw_sld X hX hbl hG hS hL (i := i + 2) (by omega) dL_law_867 ?_
  have hst := R.asked (nA := nA) (nK := nK) (E := E) (I := I) (J := J) (xs (i + 1)) (xs (i + 2)) hR
  refine w_cV1 X hS (m_X4_asked l G ad nA nK I J (xs (i + 1)) (xs (i + 2)) hs) rfl rfl g479 g1 g476 g477 g478 hd_X4_asked ⟨Nat.le_of_ble_eq_true rfl, Nat.le_of_ble_eq_true rfl⟩ (k_rec X hW 0 0 Nat.zero_lt_one rfl rfl) hW hl.1 rfl (Nat.le_of_ble_eq_true rfl) dL_law_868 (show _ ≤ 600000 by omega) (show _ ≤ 7302250 by omega) (fun H locs hW hS => ?_)
  obtain ⟨cv, ecv⟩ : ∃ z, z = (cAsked nA nK I J (xs (i + 1)) (xs (i + 2))) := ⟨_, rfl⟩
  have hm : m_S nA nK E I := hst.1
  obtain ⟨nA1, enA⟩ : ∃ z, z = nA := ⟨_, rfl⟩
  obtain ⟨nK1, enK⟩ : ∃ z, z = nK := ⟨_, rfl⟩
  have hW : Wd G ad nA1 nK1 I J H := by rw [enA, enK]; exact hW
  rw [← ecv]
  refine lv_aload_n hx hb dL_law_871 rfl (lv_at hl 1 rfl) ?_
  refine lv_aload_n hx hb dL_law_872 rfl (lv_at hl 3 rfl) ?_
  refine lv_iload_n hx hb dL_law_873 rfl (lv_at hl 0 rfl) ?_
  refine lv_iconst (v := 1) hx hb dL_law_874 (by decide) ?_
  refine lw_iaddN (a := i) (b := 1) hx hb dL_law_875 ?_
  refine lw_sld X hX hbl hG hS hL (i := i + 1) (by omega) dL_law_876 ?_
  refine lv_aload_n hx hb dL_law_877 rfl (lv_at hl 3 rfl) ?_
  refine lv_iload_n hx hb dL_law_878 rfl (lv_at hl 0 rfl) ?_
  refine lv_iconst (v := 2) hx hb dL_law_879 (by decide) ?_
  refine lw_iaddN (a := i) (b := 2) hx hb dL_law_880 ?_
  refine lw_sld X hX hbl hG hS hL (i := i + 2) (by omega) dL_law_881 ?_
  refine w_cV1 X hS (m_X5_asked l G ad nA1 nK1 nA nK E I J (xs (i + 1)) (xs (i + 2)) hm) rfl rfl g746 g4 g743 g744 g745 hd_X5_asked ⟨Nat.le_of_ble_eq_true rfl, Nat.le_of_ble_eq_true rfl⟩ (k_rec X hW 13 0 Nat.zero_lt_one rfl rfl) hW hl.1 rfl (Nat.le_of_ble_eq_true rfl) dL_law_882 (show _ ≤ 600000 by omega) (show _ ≤ 7302250 by omega) (fun H locs hW hS => ?_)
  obtain ⟨_, hv, E1, hR1⟩ := hst
  refine lv_icmp_eq (tgt := 890) hx hb dL_law_885 (by decide) (fun _ => ?_) (fun c_ => absurd (by rw [ecv, hv]) c_)
  refine W.widen (k := cells + 3) (n := slots + 20) (by omega) (by omega) ?_
  exact kk ad _ _ E1 _ _ H locs ls hR1 (hW.to3 enA enK rfl rfl) hS hl
