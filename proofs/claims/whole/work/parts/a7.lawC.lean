/-! the law's cases -/
/-- what stands all along the law -/
def lawC (p : Program) (s : State) (m : MethodId) (c : Code) (b L : Nat) (xs : Nat → Int32) (D : va_G) (y : Nat → ClassId) (A : Nat → Prop) (qs : Nat → Nat × Nat) (q qv : Nat) : Prop :=
  p.tables.exec = Jvm.exec ∧ c.code = cL_law ∧ c.maxLocals = 4 ∧ s.vm.findClass RL = some m.cls ∧ (∀ w ∈ lw_tbl, w.before #[Value.ref b] s = true) ∧ va_X b L xs s s.heap ∧ b < s.heap.size ∧ ¬ A b ∧ va_K D vwCl (cT y) s ∧ cEnv qs A s s.heap ∧ cNN s ∧ sE wTx q qv A s s.heap ∧ vk_R RX10 128 "age pay fifth tie suit acquit convict water over fine " q s ∧ (∀ q, s.heap.size ≤ q → A q) ∧ L ≤ 3072
/-- what stands between two calls -/
def lawI (s : State) (D : va_G) (y : Nat → ClassId) (A : Nat → Prop) (h : Nat) (a : Nat → Nat) (h9 : Nat) (H : Heap) (locs : List Loc) : Prop := ∃ (ad : Nat → Nat → Nat) (x : cS) (R : List (Nat × Nat)) (v : mS) (n T : Nat), ad 0 0 = h9 ∧ cHas R n T ∧ Rel n T x v ∧ wX D y A h a ad x R v H ∧ va_S A s.heap H locs
/-- two ints as a long -/
def lnum (a b : Int32) : Int64 := (a.toInt64 <<< ((32 : Int32).toInt64 &&& 63)) ||| (b.toInt64 &&& 4294967295)
theorem lcmp_0 (r : Int64) : lg_cmp r r = 0 := by unfold lg_cmp; simp
section LG
variable {p : Program} {l : Launch} {e : Env} {Rm : Room} {s : State} {m : MethodId} {args : Array Value} {below : List Frame} {meth : Method} {c : Code} {H : Heap} {locs : List Loc} {cells slots : Nat} {Q : State → Prop}
variable {pc : Nat} {ls : Array Slot} {rest : List Value} {D : va_G} {A : Nat → Prop} {y : Nat → ClassId} {qs : Nat → Nat × Nat} {q qv b L : Nat} {xs : Nat → Int32} {h : Nat} {a : Nat → Nat} {h9 : Nat}
theorem lw_arg (C : lawC p s m c b L xs D y A qs q qv) (hS : va_S A s.heap H locs) {i k : Nat} {xi z : Int32} (ei : xi = nI i) (ez : z = nI k) (hi : i + k < L) {lv : List (Nat × Value)} {nl : Nat} (hl : lv_has ls nl ((0, .ref b) :: (1, .ref h9) :: (2, .ref h) :: (3, .int xi) :: lv)) (d0 : decode cL_law pc = .ok (.aload_n 0, 1)) (d1 : decode cL_law (pc + 1) = .ok (.iload_n 3, 1)) {ik : Int} (d2 : decode cL_law (pc + 1 + 1) = .ok (.iconst ik, 1)) (hk : Int32.ofInt ik = z) (d3 : decode cL_law (pc + 1 + 1 + 1) = .ok (.iadd, 1)) (d4 : decode cL_law (pc + 1 + 1 + 1 + 1) = .ok (.iaload, 1))
    (kk : W p l e Rm s m args below meth c H locs cells slots Q (F0 m (pc + 1 + 1 + 1 + 1 + 1) ls (.int (xs (i + k)) :: rest))) : W p l e Rm s m args below meth c H locs cells slots Q (F0 m pc ls rest) := by
  obtain ⟨hx, hb, -, -, -, hX, hbl, hbA, -, -, -, -, -, -, hL⟩ := C
  refine lv_aload_n hx hb d0 rfl (lv_at hl 0 rfl) ?_
  refine lv_iload_n hx hb d1 rfl (lv_at hl 3 rfl) ?_
  refine lv_iconst (v := z) hx hb d2 hk ?_
  refine lv_iadd hx hb d3 ?_
  have e1 : xi + z = nI (i + k) := by rw [ei, ez, nI_add]
  rw [e1]
  refine va_sld hx hb hX hbl hbA hS (vp_in_nI hi (by omega)) d4 ?_
  rw [nI_clamp (by omega)]
  exact kk
set_option maxHeartbeats 4000000 in
theorem lc_feed (C : lawC p s m c b L xs D y A qs q qv) {i : Nat} (hi : i + 6 ≤ L) {xi : Int32} (ei : xi = nI i) (hI : lawI s D y A h a h9 H locs) (hl : lv_has ls 4 [(0, .ref b), (1, .ref h9), (2, .ref h), (3, .int xi)]) (hc : cells + 2 ≤ 600000) (hs : slots + 53 ≤ 7302250)
    (kk : ∀ (H : Heap) (locs : List Loc) (ls : Array Slot), lawI s D y A h a h9 H locs → lv_has ls 4 [(0, .ref b), (1, .ref h9), (2, .ref h), (3, .int xi)] → W p l e room_1 s m #[Value.ref b] below meth c H locs (cells + 2) (slots + 53) Q (F0 m 1157 ls [])) : W p l e room_1 s m #[Value.ref b] below meth c H locs cells slots Q (F0 m 160 ls []) := by
  obtain ⟨ad, x, R, v, n, T, rfl, hR, hr, hw, hS⟩ := hI
  obtain ⟨hx, hb, hml, hown, hts, hX, hbl, hbA, hK, hE, hNN, hSE, hRR, hA, hL⟩ := id C
  have hKm : va_K D vwCl (mT y) s := hK.sub [0, 1, 2, 3] rfl
  have h0 : (0, 0) ∈ R := (hR 0 0).mpr Nat.zero_lt_one
  obtain ⟨P1, P2, hM1, hM2, hf⟩ := both_feed (l := l) (D := D) (y := y) (qs := qs) (h := h) (a := a) (ad := ad) hr hR (xs (i + 1)) (xs (i + 2)) (xs (i + 3)) (xs (i + 4)) (xs (i + 5))
  refine lv_aload_n hx hb dL_law_160 rfl (lv_at hl 1 rfl) ?_
  refine lw_arg C hS ei (k := 1) (z := 1) rfl (by omega) hl dL_law_161 dL_law_162 dL_law_163 rfl dL_law_164 dL_law_165 ?_
  refine lw_arg C hS ei (k := 2) (z := 2) rfl (by omega) hl dL_law_166 dL_law_167 dL_law_168 rfl dL_law_169 dL_law_170 ?_
  refine lw_arg C hS ei (k := 3) (z := 3) rfl (by omega) hl dL_law_171 dL_law_172 dL_law_173 rfl dL_law_174 dL_law_175 ?_
  refine lw_arg C hS ei (k := 4) (z := 4) rfl (by omega) hl dL_law_176 dL_law_177 dL_law_178 rfl dL_law_179 dL_law_180 ?_
  refine lw_arg C hS ei (k := 5) (z := 5) rfl (by omega) hl dL_law_181 dL_law_182 dL_law_183 rfl dL_law_184 dL_law_185 ?_
  refine x_calli (As := [.int (xs (i + 1)), .int (xs (i + 2)), .int (xs (i + 3)), .int (xs (i + 4)), .int (xs (i + 5))]) (rest := []) ⟨hx, hb, hml, hown, hts⟩ hM1 (cwV 5 hts gL_X9_feed rfl rfl rfl (by decide +kernel) ⟨Nat.le_of_ble_eq_true rfl, Nat.le_of_ble_eq_true rfl⟩) h0 hE hK hw hS hA rfl hl.1 rfl (Nat.le_of_ble_eq_true rfl) dL_law_186 ⟨(by show _ ≤ 600000; omega), (by show _ ≤ 7302250; omega)⟩ (fun r x1 H locs hp1 hw hS => ?_)
  refine lv_aload_n hx hb dL_law_189 rfl (lv_at hl 2 rfl) ?_
  refine lw_arg C hS ei (k := 1) (z := 1) rfl (by omega) hl dL_law_190 dL_law_191 dL_law_192 rfl dL_law_193 dL_law_194 ?_
  refine lw_arg C hS ei (k := 2) (z := 2) rfl (by omega) hl dL_law_195 dL_law_196 dL_law_197 rfl dL_law_198 dL_law_199 ?_
  refine lw_arg C hS ei (k := 3) (z := 3) rfl (by omega) hl dL_law_200 dL_law_201 dL_law_202 rfl dL_law_203 dL_law_204 ?_
  refine lw_arg C hS ei (k := 4) (z := 4) rfl (by omega) hl dL_law_205 dL_law_206 dL_law_207 rfl dL_law_208 dL_law_209 ?_
  refine lw_arg C hS ei (k := 5) (z := 5) rfl (by omega) hl dL_law_210 dL_law_211 dL_law_212 rfl dL_law_213 dL_law_214 ?_
  refine y_calli (As := [.int (xs (i + 1)), .int (xs (i + 2)), .int (xs (i + 3)), .int (xs (i + 4)), .int (xs (i + 5))]) (rest := [.int r]) ⟨hx, hb, hml, hown, hts⟩ hM2 (cwV 5 hts gL_X10_feed rfl rfl rfl (by decide +kernel) ⟨Nat.le_of_ble_eq_true rfl, Nat.le_of_ble_eq_true rfl⟩) hKm hw hS hA rfl hl.1 rfl (Nat.le_of_ble_eq_true rfl) dL_law_215 ⟨(by show _ ≤ 600000; omega), (by show _ ≤ 7302250; omega)⟩ (fun r2 v1 H locs hp2 hw hS => ?_)
  obtain ⟨er, hr1⟩ := hf r x1 r2 v1 hp1 hp2
  refine lv_icmp_eq (tgt := 1157) hx hb dL_law_218 (by decide) (fun _ => ?_) (fun c9 => absurd er c9)
  exact W.widen (by omega) (by omega) (kk H locs ls ⟨ad, x1, R, v1, n, T, rfl, hR, hr1, hw, hS⟩ hl)
set_option maxHeartbeats 4000000 in
theorem lc_end (C : lawC p s m c b L xs D y A qs q qv) {i : Nat} (hi : i + 6 ≤ L) {xi : Int32} (ei : xi = nI i) (hI : lawI s D y A h a h9 H locs) (hl : lv_has ls 4 [(0, .ref b), (1, .ref h9), (2, .ref h), (3, .int xi)]) (hc : cells + 2 ≤ 600000) (hs : slots + 53 ≤ 7302250)
    (kk : ∀ (H : Heap) (locs : List Loc) (ls : Array Slot), lawI s D y A h a h9 H locs → lv_has ls 4 [(0, .ref b), (1, .ref h9), (2, .ref h), (3, .int xi)] → W p l e room_1 s m #[Value.ref b] below meth c H locs (cells + 2) (slots + 53) Q (F0 m 1157 ls [])) : W p l e room_1 s m #[Value.ref b] below meth c H locs cells slots Q (F0 m 223 ls []) := by
  obtain ⟨ad, x, R, v, n, T, rfl, hR, hr, hw, hS⟩ := hI
  obtain ⟨hx, hb, hml, hown, hts, hX, hbl, hbA, hK, hE, hNN, hSE, hRR, hA, hL⟩ := id C
  have hKm : va_K D vwCl (mT y) s := hK.sub [0, 1, 2, 3] rfl
  have h0 : (0, 0) ∈ R := (hR 0 0).mpr Nat.zero_lt_one
  obtain ⟨P1, P2, hM1, hM2, hf⟩ := both_end (l := l) (D := D) (y := y) (qs := qs) (h := h) (a := a) (ad := ad) hr hR (xs (i + 1))
  refine lv_aload_n hx hb dL_law_223 rfl (lv_at hl 1 rfl) ?_
  refine lw_arg C hS ei (k := 1) (z := 1) rfl (by omega) hl dL_law_224 dL_law_225 dL_law_226 rfl dL_law_227 dL_law_228 ?_
  refine x_calli (As := [.int (xs (i + 1))]) (rest := []) ⟨hx, hb, hml, hown, hts⟩ hM1 (cwV 1 hts gL_X9_end rfl rfl rfl (by decide +kernel) ⟨Nat.le_of_ble_eq_true rfl, Nat.le_of_ble_eq_true rfl⟩) h0 hE hK hw hS hA rfl hl.1 rfl (Nat.le_of_ble_eq_true rfl) dL_law_229 ⟨(by show _ ≤ 600000; omega), (by show _ ≤ 7302250; omega)⟩ (fun r x1 H locs hp1 hw hS => ?_)
  refine lv_aload_n hx hb dL_law_232 rfl (lv_at hl 2 rfl) ?_
  refine lw_arg C hS ei (k := 1) (z := 1) rfl (by omega) hl dL_law_233 dL_law_234 dL_law_235 rfl dL_law_236 dL_law_237 ?_
  refine y_calli (As := [.int (xs (i + 1))]) (rest := [.int r]) ⟨hx, hb, hml, hown, hts⟩ hM2 (cwV 1 hts gL_X10_end rfl rfl rfl (by decide +kernel) ⟨Nat.le_of_ble_eq_true rfl, Nat.le_of_ble_eq_true rfl⟩) hKm hw hS hA rfl hl.1 rfl (Nat.le_of_ble_eq_true rfl) dL_law_238 ⟨(by show _ ≤ 600000; omega), (by show _ ≤ 7302250; omega)⟩ (fun r2 v1 H locs hp2 hw hS => ?_)
  obtain ⟨er, hr1⟩ := hf r x1 r2 v1 hp1 hp2
  refine lv_icmp_eq (tgt := 1157) hx hb dL_law_241 (by decide) (fun _ => ?_) (fun c9 => absurd er c9)
  exact W.widen (by omega) (by omega) (kk H locs ls ⟨ad, x1, R, v1, n, T, rfl, hR, hr1, hw, hS⟩ hl)
set_option maxHeartbeats 4000000 in
theorem lc_laws (C : lawC p s m c b L xs D y A qs q qv) {i : Nat} (hi : i + 6 ≤ L) {xi : Int32} (ei : xi = nI i) (hI : lawI s D y A h a h9 H locs) (hl : lv_has ls 4 [(0, .ref b), (1, .ref h9), (2, .ref h), (3, .int xi)]) (hc : cells + 2 ≤ 600000) (hs : slots + 53 ≤ 7302250)
    (kk : ∀ (H : Heap) (locs : List Loc) (ls : Array Slot), lawI s D y A h a h9 H locs → lv_has ls 4 [(0, .ref b), (1, .ref h9), (2, .ref h), (3, .int xi)] → W p l e room_1 s m #[Value.ref b] below meth c H locs (cells + 2) (slots + 53) Q (F0 m 1157 ls [])) : W p l e room_1 s m #[Value.ref b] below meth c H locs cells slots Q (F0 m 246 ls []) := by
  obtain ⟨ad, x, R, v, n, T, rfl, hR, hr, hw, hS⟩ := hI
  obtain ⟨hx, hb, hml, hown, hts, hX, hbl, hbA, hK, hE, hNN, hSE, hRR, hA, hL⟩ := id C
  have hKm : va_K D vwCl (mT y) s := hK.sub [0, 1, 2, 3] rfl
  have h0 : (0, 0) ∈ R := (hR 0 0).mpr Nat.zero_lt_one
  obtain ⟨P1, P2, hM1, hM2, hf⟩ := both_laws (l := l) (D := D) (y := y) (qs := qs) (h := h) (a := a) (ad := ad) (q := q) (qv := qv) hr hR (xs (i + 1))
  refine lv_aload_n hx hb dL_law_246 rfl (lv_at hl 1 rfl) ?_
  refine lw_arg C hS ei (k := 1) (z := 1) rfl (by omega) hl dL_law_247 dL_law_248 dL_law_249 rfl dL_law_250 dL_law_251 ?_
  refine x_calla (As := [.int (xs (i + 1))]) (rest := []) ⟨hx, hb, hml, hown, hts⟩ hM1 (cwV 1 hts gL_X9_laws rfl rfl rfl (by decide +kernel) ⟨Nat.le_of_ble_eq_true rfl, Nat.le_of_ble_eq_true rfl⟩) h0 hE hNN hK hw hS hA rfl hl.1 rfl (Nat.le_of_ble_eq_true rfl) dL_law_252 ⟨(by show _ ≤ 600000; omega), (by show _ ≤ 7302250; omega)⟩ (fun r u H locs hp1 hw hS => ?_)
  refine lv_aload_n hx hb dL_law_255 rfl (lv_at hl 2 rfl) ?_
  refine lw_arg C hS ei (k := 1) (z := 1) rfl (by omega) hl dL_law_256 dL_law_257 dL_law_258 rfl dL_law_259 dL_law_260 ?_
  refine z_calli (As := [.int (xs (i + 1))]) (rest := [.int r]) ⟨hx, hb, hml, hown, hts⟩ hM2 (cwV 1 hts gL_X10_laws rfl rfl rfl (by decide +kernel) ⟨Nat.le_of_ble_eq_true rfl, Nat.le_of_ble_eq_true rfl⟩) hSE hRR hKm hw hS hA rfl hl.1 rfl (Nat.le_of_ble_eq_true rfl) dL_law_261 ⟨(by show _ ≤ 600000; omega), (by show _ ≤ 7302250; omega)⟩ (fun r2 v1 H locs hp2 hw hS => ?_)
  obtain ⟨er, e0, n1, T1, hR1, hr1⟩ := hf r u r2 v1 hp1 hp2
  refine lv_icmp_eq (tgt := 1157) hx hb dL_law_264 (by decide) (fun _ => ?_) (fun c9 => absurd er c9)
  exact W.widen (by omega) (by omega) (kk H locs ls ⟨u.2.1, u.1, u.2.2, v1, n1, T1, e0, hR1, hr1, hw, hS⟩ hl)
set_option maxHeartbeats 4000000 in
theorem lc_fault (C : lawC p s m c b L xs D y A qs q qv) {i : Nat} (hi : i + 6 ≤ L) {xi : Int32} (ei : xi = nI i) (hI : lawI s D y A h a h9 H locs) (hl : lv_has ls 4 [(0, .ref b), (1, .ref h9), (2, .ref h), (3, .int xi)]) (hc : cells + 2 ≤ 600000) (hs : slots + 53 ≤ 7302250)
    (kk : ∀ (H : Heap) (locs : List Loc) (ls : Array Slot), lawI s D y A h a h9 H locs → lv_has ls 4 [(0, .ref b), (1, .ref h9), (2, .ref h), (3, .int xi)] → W p l e room_1 s m #[Value.ref b] below meth c H locs (cells + 2) (slots + 53) Q (F0 m 1157 ls [])) : W p l e room_1 s m #[Value.ref b] below meth c H locs cells slots Q (F0 m 269 ls []) := by
  obtain ⟨ad, x, R, v, n, T, rfl, hR, hr, hw, hS⟩ := hI
  obtain ⟨hx, hb, hml, hown, hts, hX, hbl, hbA, hK, hE, hNN, hSE, hRR, hA, hL⟩ := id C
  have hKm : va_K D vwCl (mT y) s := hK.sub [0, 1, 2, 3] rfl
  have h0 : (0, 0) ∈ R := (hR 0 0).mpr Nat.zero_lt_one
  obtain ⟨P1, P2, hM1, hM2, hf⟩ := both_fault (l := l) (D := D) (y := y) (qs := qs) (h := h) (a := a) (ad := ad) hr hR (xs (i + 1))
  refine lv_aload_n hx hb dL_law_269 rfl (lv_at hl 1 rfl) ?_
  refine lw_arg C hS ei (k := 1) (z := 1) rfl (by omega) hl dL_law_270 dL_law_271 dL_law_272 rfl dL_law_273 dL_law_274 ?_
  refine x_calli (As := [.int (xs (i + 1))]) (rest := []) ⟨hx, hb, hml, hown, hts⟩ hM1 (cwV 1 hts gL_X9_fault rfl rfl rfl (by decide +kernel) ⟨Nat.le_of_ble_eq_true rfl, Nat.le_of_ble_eq_true rfl⟩) h0 hE hK hw hS hA rfl hl.1 rfl (Nat.le_of_ble_eq_true rfl) dL_law_275 ⟨(by show _ ≤ 600000; omega), (by show _ ≤ 7302250; omega)⟩ (fun r x1 H locs hp1 hw hS => ?_)
  refine lv_aload_n hx hb dL_law_278 rfl (lv_at hl 2 rfl) ?_
  refine lw_arg C hS ei (k := 1) (z := 1) rfl (by omega) hl dL_law_279 dL_law_280 dL_law_281 rfl dL_law_282 dL_law_283 ?_
  refine y_calli (As := [.int (xs (i + 1))]) (rest := [.int r]) ⟨hx, hb, hml, hown, hts⟩ hM2 (cwV 1 hts gL_X10_fault rfl rfl rfl (by decide +kernel) ⟨Nat.le_of_ble_eq_true rfl, Nat.le_of_ble_eq_true rfl⟩) hKm hw hS hA rfl hl.1 rfl (Nat.le_of_ble_eq_true rfl) dL_law_284 ⟨(by show _ ≤ 600000; omega), (by show _ ≤ 7302250; omega)⟩ (fun r2 v1 H locs hp2 hw hS => ?_)
  obtain ⟨er, hr1⟩ := hf r x1 r2 v1 hp1 hp2
  refine lv_icmp_eq (tgt := 1157) hx hb dL_law_287 (by decide) (fun _ => ?_) (fun c9 => absurd er c9)
  exact W.widen (by omega) (by omega) (kk H locs ls ⟨ad, x1, R, v1, n, T, rfl, hR, hr1, hw, hS⟩ hl)
set_option maxHeartbeats 4000000 in
theorem lc_law (C : lawC p s m c b L xs D y A qs q qv) {i : Nat} (hi : i + 6 ≤ L) {xi : Int32} (ei : xi = nI i) (hI : lawI s D y A h a h9 H locs) (hl : lv_has ls 4 [(0, .ref b), (1, .ref h9), (2, .ref h), (3, .int xi)]) (hc : cells + 2 ≤ 600000) (hs : slots + 53 ≤ 7302250)
    (kk : ∀ (H : Heap) (locs : List Loc) (ls : Array Slot), lawI s D y A h a h9 H locs → lv_has ls 4 [(0, .ref b), (1, .ref h9), (2, .ref h), (3, .int xi)] → W p l e room_1 s m #[Value.ref b] below meth c H locs (cells + 2) (slots + 53) Q (F0 m 1157 ls [])) : W p l e room_1 s m #[Value.ref b] below meth c H locs cells slots Q (F0 m 292 ls []) := by
  obtain ⟨ad, x, R, v, n, T, rfl, hR, hr, hw, hS⟩ := hI
  obtain ⟨hx, hb, hml, hown, hts, hX, hbl, hbA, hK, hE, hNN, hSE, hRR, hA, hL⟩ := id C
  have hKm : va_K D vwCl (mT y) s := hK.sub [0, 1, 2, 3] rfl
  have h0 : (0, 0) ∈ R := (hR 0 0).mpr Nat.zero_lt_one
  obtain ⟨P1, P2, hM1, hM2, hf⟩ := both_law (l := l) (D := D) (y := y) (qs := qs) (h := h) (a := a) (ad := ad) hr hR (xs (i + 1)) (xs (i + 2))
  refine lv_aload_n hx hb dL_law_292 rfl (lv_at hl 1 rfl) ?_
  refine lw_arg C hS ei (k := 1) (z := 1) rfl (by omega) hl dL_law_293 dL_law_294 dL_law_295 rfl dL_law_296 dL_law_297 ?_
  refine lw_arg C hS ei (k := 2) (z := 2) rfl (by omega) hl dL_law_298 dL_law_299 dL_law_300 rfl dL_law_301 dL_law_302 ?_
  refine x_calli (As := [.int (xs (i + 1)), .int (xs (i + 2))]) (rest := []) ⟨hx, hb, hml, hown, hts⟩ hM1 (cwV 2 hts gL_X9_law rfl rfl rfl (by decide +kernel) ⟨Nat.le_of_ble_eq_true rfl, Nat.le_of_ble_eq_true rfl⟩) h0 hE hK hw hS hA rfl hl.1 rfl (Nat.le_of_ble_eq_true rfl) dL_law_303 ⟨(by show _ ≤ 600000; omega), (by show _ ≤ 7302250; omega)⟩ (fun r x1 H locs hp1 hw hS => ?_)
  refine lv_aload_n hx hb dL_law_306 rfl (lv_at hl 2 rfl) ?_
  refine lw_arg C hS ei (k := 1) (z := 1) rfl (by omega) hl dL_law_307 dL_law_308 dL_law_309 rfl dL_law_310 dL_law_311 ?_
  refine lw_arg C hS ei (k := 2) (z := 2) rfl (by omega) hl dL_law_312 dL_law_313 dL_law_314 rfl dL_law_315 dL_law_316 ?_
  refine y_calli (As := [.int (xs (i + 1)), .int (xs (i + 2))]) (rest := [.int r]) ⟨hx, hb, hml, hown, hts⟩ hM2 (cwV 2 hts gL_X10_law rfl rfl rfl (by decide +kernel) ⟨Nat.le_of_ble_eq_true rfl, Nat.le_of_ble_eq_true rfl⟩) hKm hw hS hA rfl hl.1 rfl (Nat.le_of_ble_eq_true rfl) dL_law_317 ⟨(by show _ ≤ 600000; omega), (by show _ ≤ 7302250; omega)⟩ (fun r2 v1 H locs hp2 hw hS => ?_)
  obtain ⟨er, hr1⟩ := hf r x1 r2 v1 hp1 hp2
  refine lv_icmp_eq (tgt := 1157) hx hb dL_law_320 (by decide) (fun _ => ?_) (fun c9 => absurd er c9)
  exact W.widen (by omega) (by omega) (kk H locs ls ⟨ad, x1, R, v1, n, T, rfl, hR, hr1, hw, hS⟩ hl)
set_option maxHeartbeats 4000000 in
theorem lc_citizen (C : lawC p s m c b L xs D y A qs q qv) {i : Nat} (hi : i + 6 ≤ L) {xi : Int32} (ei : xi = nI i) (hI : lawI s D y A h a h9 H locs) (hl : lv_has ls 4 [(0, .ref b), (1, .ref h9), (2, .ref h), (3, .int xi)]) (hc : cells + 2 ≤ 600000) (hs : slots + 53 ≤ 7302250)
    (kk : ∀ (H : Heap) (locs : List Loc) (ls : Array Slot), lawI s D y A h a h9 H locs → lv_has ls 4 [(0, .ref b), (1, .ref h9), (2, .ref h), (3, .int xi)] → W p l e room_1 s m #[Value.ref b] below meth c H locs (cells + 2) (slots + 53) Q (F0 m 1157 ls [])) : W p l e room_1 s m #[Value.ref b] below meth c H locs cells slots Q (F0 m 325 ls []) := by
  obtain ⟨ad, x, R, v, n, T, rfl, hR, hr, hw, hS⟩ := hI
  obtain ⟨hx, hb, hml, hown, hts, hX, hbl, hbA, hK, hE, hNN, hSE, hRR, hA, hL⟩ := id C
  have hKm : va_K D vwCl (mT y) s := hK.sub [0, 1, 2, 3] rfl
  have h0 : (0, 0) ∈ R := (hR 0 0).mpr Nat.zero_lt_one
  obtain ⟨P1, P2, hM1, hM2, hf⟩ := both_citizen (l := l) (D := D) (y := y) (qs := qs) (h := h) (a := a) (ad := ad) hr hR (xs (i + 1)) (xs (i + 2)) (xs (i + 3))
  refine lv_aload_n hx hb dL_law_325 rfl (lv_at hl 1 rfl) ?_
  refine lw_arg C hS ei (k := 1) (z := 1) rfl (by omega) hl dL_law_326 dL_law_327 dL_law_328 rfl dL_law_329 dL_law_330 ?_
  refine lw_arg C hS ei (k := 2) (z := 2) rfl (by omega) hl dL_law_331 dL_law_332 dL_law_333 rfl dL_law_334 dL_law_335 ?_
  refine lw_arg C hS ei (k := 3) (z := 3) rfl (by omega) hl dL_law_336 dL_law_337 dL_law_338 rfl dL_law_339 dL_law_340 ?_
  refine x_calla (As := [.int (xs (i + 1)), .int (xs (i + 2)), .int (xs (i + 3))]) (rest := []) ⟨hx, hb, hml, hown, hts⟩ hM1 (cwV 3 hts gL_X9_citizen rfl rfl rfl (by decide +kernel) ⟨Nat.le_of_ble_eq_true rfl, Nat.le_of_ble_eq_true rfl⟩) h0 hE hNN hK hw hS hA rfl hl.1 rfl (Nat.le_of_ble_eq_true rfl) dL_law_341 ⟨(by show _ ≤ 600000; omega), (by show _ ≤ 7302250; omega)⟩ (fun r u H locs hp1 hw hS => ?_)
  refine lv_aload_n hx hb dL_law_344 rfl (lv_at hl 2 rfl) ?_
  refine lw_arg C hS ei (k := 1) (z := 1) rfl (by omega) hl dL_law_345 dL_law_346 dL_law_347 rfl dL_law_348 dL_law_349 ?_
  refine lw_arg C hS ei (k := 2) (z := 2) rfl (by omega) hl dL_law_350 dL_law_351 dL_law_352 rfl dL_law_353 dL_law_354 ?_
  refine lw_arg C hS ei (k := 3) (z := 3) rfl (by omega) hl dL_law_355 dL_law_356 dL_law_357 rfl dL_law_358 dL_law_359 ?_
  refine y_calli (As := [.int (xs (i + 1)), .int (xs (i + 2)), .int (xs (i + 3))]) (rest := [.int r]) ⟨hx, hb, hml, hown, hts⟩ hM2 (cwV 3 hts gL_X10_citizen rfl rfl rfl (by decide +kernel) ⟨Nat.le_of_ble_eq_true rfl, Nat.le_of_ble_eq_true rfl⟩) hKm hw hS hA rfl hl.1 rfl (Nat.le_of_ble_eq_true rfl) dL_law_360 ⟨(by show _ ≤ 600000; omega), (by show _ ≤ 7302250; omega)⟩ (fun r2 v1 H locs hp2 hw hS => ?_)
  obtain ⟨er, e0, n1, T1, hR1, hr1⟩ := hf r u r2 v1 hp1 hp2
  refine lv_icmp_eq (tgt := 1157) hx hb dL_law_363 (by decide) (fun _ => ?_) (fun c9 => absurd er c9)
  exact W.widen (by omega) (by omega) (kk H locs ls ⟨u.2.1, u.1, u.2.2, v1, n1, T1, e0, hR1, hr1, hw, hS⟩ hl)
set_option maxHeartbeats 4000000 in
theorem lc_swear (C : lawC p s m c b L xs D y A qs q qv) {i : Nat} (hi : i + 6 ≤ L) {xi : Int32} (ei : xi = nI i) (hI : lawI s D y A h a h9 H locs) (hl : lv_has ls 4 [(0, .ref b), (1, .ref h9), (2, .ref h), (3, .int xi)]) (hc : cells + 2 ≤ 600000) (hs : slots + 53 ≤ 7302250)
    (kk : ∀ (H : Heap) (locs : List Loc) (ls : Array Slot), lawI s D y A h a h9 H locs → lv_has ls 4 [(0, .ref b), (1, .ref h9), (2, .ref h), (3, .int xi)] → W p l e room_1 s m #[Value.ref b] below meth c H locs (cells + 2) (slots + 53) Q (F0 m 1157 ls [])) : W p l e room_1 s m #[Value.ref b] below meth c H locs cells slots Q (F0 m 368 ls []) := by
  obtain ⟨ad, x, R, v, n, T, rfl, hR, hr, hw, hS⟩ := hI
  obtain ⟨hx, hb, hml, hown, hts, hX, hbl, hbA, hK, hE, hNN, hSE, hRR, hA, hL⟩ := id C
  have hKm : va_K D vwCl (mT y) s := hK.sub [0, 1, 2, 3] rfl
  have h0 : (0, 0) ∈ R := (hR 0 0).mpr Nat.zero_lt_one
  obtain ⟨P1, P2, hM1, hM2, hf⟩ := both_swear (l := l) (D := D) (y := y) (qs := qs) (h := h) (a := a) (ad := ad) hr hR (xs (i + 1))
  refine lv_aload_n hx hb dL_law_368 rfl (lv_at hl 1 rfl) ?_
  refine lw_arg C hS ei (k := 1) (z := 1) rfl (by omega) hl dL_law_369 dL_law_370 dL_law_371 rfl dL_law_372 dL_law_373 ?_
  refine x_calli (As := [.int (xs (i + 1))]) (rest := []) ⟨hx, hb, hml, hown, hts⟩ hM1 (cwV 1 hts gL_X9_swear rfl rfl rfl (by decide +kernel) ⟨Nat.le_of_ble_eq_true rfl, Nat.le_of_ble_eq_true rfl⟩) h0 hE hK hw hS hA rfl hl.1 rfl (Nat.le_of_ble_eq_true rfl) dL_law_374 ⟨(by show _ ≤ 600000; omega), (by show _ ≤ 7302250; omega)⟩ (fun r x1 H locs hp1 hw hS => ?_)
  refine lv_aload_n hx hb dL_law_377 rfl (lv_at hl 2 rfl) ?_
  refine lw_arg C hS ei (k := 1) (z := 1) rfl (by omega) hl dL_law_378 dL_law_379 dL_law_380 rfl dL_law_381 dL_law_382 ?_
  refine y_calli (As := [.int (xs (i + 1))]) (rest := [.int r]) ⟨hx, hb, hml, hown, hts⟩ hM2 (cwV 1 hts gL_X10_swear rfl rfl rfl (by decide +kernel) ⟨Nat.le_of_ble_eq_true rfl, Nat.le_of_ble_eq_true rfl⟩) hKm hw hS hA rfl hl.1 rfl (Nat.le_of_ble_eq_true rfl) dL_law_383 ⟨(by show _ ≤ 600000; omega), (by show _ ≤ 7302250; omega)⟩ (fun r2 v1 H locs hp2 hw hS => ?_)
  obtain ⟨er, hr1⟩ := hf r x1 r2 v1 hp1 hp2
  refine lv_icmp_eq (tgt := 1157) hx hb dL_law_386 (by decide) (fun _ => ?_) (fun c9 => absurd er c9)
  exact W.widen (by omega) (by omega) (kk H locs ls ⟨ad, x1, R, v1, n, T, rfl, hR, hr1, hw, hS⟩ hl)
set_option maxHeartbeats 4000000 in
theorem lc_owe (C : lawC p s m c b L xs D y A qs q qv) {i : Nat} (hi : i + 6 ≤ L) {xi : Int32} (ei : xi = nI i) (hI : lawI s D y A h a h9 H locs) (hl : lv_has ls 4 [(0, .ref b), (1, .ref h9), (2, .ref h), (3, .int xi)]) (hc : cells + 2 ≤ 600000) (hs : slots + 53 ≤ 7302250)
    (kk : ∀ (H : Heap) (locs : List Loc) (ls : Array Slot), lawI s D y A h a h9 H locs → lv_has ls 4 [(0, .ref b), (1, .ref h9), (2, .ref h), (3, .int xi)] → W p l e room_1 s m #[Value.ref b] below meth c H locs (cells + 2) (slots + 53) Q (F0 m 1157 ls [])) : W p l e room_1 s m #[Value.ref b] below meth c H locs cells slots Q (F0 m 391 ls []) := by
  obtain ⟨ad, x, R, v, n, T, rfl, hR, hr, hw, hS⟩ := hI
  obtain ⟨hx, hb, hml, hown, hts, hX, hbl, hbA, hK, hE, hNN, hSE, hRR, hA, hL⟩ := id C
  have hKm : va_K D vwCl (mT y) s := hK.sub [0, 1, 2, 3] rfl
  have h0 : (0, 0) ∈ R := (hR 0 0).mpr Nat.zero_lt_one
  obtain ⟨P1, P2, hM1, hM2, hf⟩ := both_owe (l := l) (D := D) (y := y) (qs := qs) (h := h) (a := a) (ad := ad) hr hR (xs (i + 1)) (xs (i + 2)) (xs (i + 3))
  refine lv_aload_n hx hb dL_law_391 rfl (lv_at hl 1 rfl) ?_
  refine lw_arg C hS ei (k := 1) (z := 1) rfl (by omega) hl dL_law_392 dL_law_393 dL_law_394 rfl dL_law_395 dL_law_396 ?_
  refine lw_arg C hS ei (k := 2) (z := 2) rfl (by omega) hl dL_law_397 dL_law_398 dL_law_399 rfl dL_law_400 dL_law_401 ?_
  refine lw_arg C hS ei (k := 3) (z := 3) rfl (by omega) hl dL_law_402 dL_law_403 dL_law_404 rfl dL_law_405 dL_law_406 ?_
  refine x_calli (As := [.int (xs (i + 1)), .int (xs (i + 2)), .int (xs (i + 3))]) (rest := []) ⟨hx, hb, hml, hown, hts⟩ hM1 (cwV 3 hts gL_X9_owe rfl rfl rfl (by decide +kernel) ⟨Nat.le_of_ble_eq_true rfl, Nat.le_of_ble_eq_true rfl⟩) h0 hE hK hw hS hA rfl hl.1 rfl (Nat.le_of_ble_eq_true rfl) dL_law_407 ⟨(by show _ ≤ 600000; omega), (by show _ ≤ 7302250; omega)⟩ (fun r x1 H locs hp1 hw hS => ?_)
  refine lv_aload_n hx hb dL_law_410 rfl (lv_at hl 2 rfl) ?_
  refine lw_arg C hS ei (k := 1) (z := 1) rfl (by omega) hl dL_law_411 dL_law_412 dL_law_413 rfl dL_law_414 dL_law_415 ?_
  refine lw_arg C hS ei (k := 2) (z := 2) rfl (by omega) hl dL_law_416 dL_law_417 dL_law_418 rfl dL_law_419 dL_law_420 ?_
  refine lw_arg C hS ei (k := 3) (z := 3) rfl (by omega) hl dL_law_421 dL_law_422 dL_law_423 rfl dL_law_424 dL_law_425 ?_
  refine y_calli (As := [.int (xs (i + 1)), .int (xs (i + 2)), .int (xs (i + 3))]) (rest := [.int r]) ⟨hx, hb, hml, hown, hts⟩ hM2 (cwV 3 hts gL_X10_owe rfl rfl rfl (by decide +kernel) ⟨Nat.le_of_ble_eq_true rfl, Nat.le_of_ble_eq_true rfl⟩) hKm hw hS hA rfl hl.1 rfl (Nat.le_of_ble_eq_true rfl) dL_law_426 ⟨(by show _ ≤ 600000; omega), (by show _ ≤ 7302250; omega)⟩ (fun r2 v1 H locs hp2 hw hS => ?_)
  obtain ⟨er, hr1⟩ := hf r x1 r2 v1 hp1 hp2
  refine lv_icmp_eq (tgt := 1157) hx hb dL_law_429 (by decide) (fun _ => ?_) (fun c9 => absurd er c9)
  exact W.widen (by omega) (by omega) (kk H locs ls ⟨ad, x1, R, v1, n, T, rfl, hR, hr1, hw, hS⟩ hl)
set_option maxHeartbeats 4000000 in
theorem lc_pay (C : lawC p s m c b L xs D y A qs q qv) {i : Nat} (hi : i + 6 ≤ L) {xi : Int32} (ei : xi = nI i) (hI : lawI s D y A h a h9 H locs) (hl : lv_has ls 4 [(0, .ref b), (1, .ref h9), (2, .ref h), (3, .int xi)]) (hc : cells + 2 ≤ 600000) (hs : slots + 53 ≤ 7302250)
    (kk : ∀ (H : Heap) (locs : List Loc) (ls : Array Slot), lawI s D y A h a h9 H locs → lv_has ls 4 [(0, .ref b), (1, .ref h9), (2, .ref h), (3, .int xi)] → W p l e room_1 s m #[Value.ref b] below meth c H locs (cells + 2) (slots + 53) Q (F0 m 1157 ls [])) : W p l e room_1 s m #[Value.ref b] below meth c H locs cells slots Q (F0 m 434 ls []) := by
  obtain ⟨ad, x, R, v, n, T, rfl, hR, hr, hw, hS⟩ := hI
  obtain ⟨hx, hb, hml, hown, hts, hX, hbl, hbA, hK, hE, hNN, hSE, hRR, hA, hL⟩ := id C
  have hKm : va_K D vwCl (mT y) s := hK.sub [0, 1, 2, 3] rfl
  have h0 : (0, 0) ∈ R := (hR 0 0).mpr Nat.zero_lt_one
  obtain ⟨P1, P2, hM1, hM2, hf⟩ := both_pay (l := l) (D := D) (y := y) (qs := qs) (h := h) (a := a) (ad := ad) hr hR (xs (i + 1)) (xs (i + 2))
  refine lv_aload_n hx hb dL_law_434 rfl (lv_at hl 1 rfl) ?_
  refine lw_arg C hS ei (k := 1) (z := 1) rfl (by omega) hl dL_law_435 dL_law_436 dL_law_437 rfl dL_law_438 dL_law_439 ?_
  refine lw_arg C hS ei (k := 2) (z := 2) rfl (by omega) hl dL_law_440 dL_law_441 dL_law_442 rfl dL_law_443 dL_law_444 ?_
  refine x_calli (As := [.int (xs (i + 1)), .int (xs (i + 2))]) (rest := []) ⟨hx, hb, hml, hown, hts⟩ hM1 (cwV 2 hts gL_X9_pay rfl rfl rfl (by decide +kernel) ⟨Nat.le_of_ble_eq_true rfl, Nat.le_of_ble_eq_true rfl⟩) h0 hE hK hw hS hA rfl hl.1 rfl (Nat.le_of_ble_eq_true rfl) dL_law_445 ⟨(by show _ ≤ 600000; omega), (by show _ ≤ 7302250; omega)⟩ (fun r x1 H locs hp1 hw hS => ?_)
  refine lv_aload_n hx hb dL_law_448 rfl (lv_at hl 2 rfl) ?_
  refine lw_arg C hS ei (k := 1) (z := 1) rfl (by omega) hl dL_law_449 dL_law_450 dL_law_451 rfl dL_law_452 dL_law_453 ?_
  refine lw_arg C hS ei (k := 2) (z := 2) rfl (by omega) hl dL_law_454 dL_law_455 dL_law_456 rfl dL_law_457 dL_law_458 ?_
  refine y_calli (As := [.int (xs (i + 1)), .int (xs (i + 2))]) (rest := [.int r]) ⟨hx, hb, hml, hown, hts⟩ hM2 (cwV 2 hts gL_X10_pay rfl rfl rfl (by decide +kernel) ⟨Nat.le_of_ble_eq_true rfl, Nat.le_of_ble_eq_true rfl⟩) hKm hw hS hA rfl hl.1 rfl (Nat.le_of_ble_eq_true rfl) dL_law_459 ⟨(by show _ ≤ 600000; omega), (by show _ ≤ 7302250; omega)⟩ (fun r2 v1 H locs hp2 hw hS => ?_)
  obtain ⟨er, hr1⟩ := hf r x1 r2 v1 hp1 hp2
  refine lv_icmp_eq (tgt := 1157) hx hb dL_law_462 (by decide) (fun _ => ?_) (fun c9 => absurd er c9)
  exact W.widen (by omega) (by omega) (kk H locs ls ⟨ad, x1, R, v1, n, T, rfl, hR, hr1, hw, hS⟩ hl)
set_option maxHeartbeats 4000000 in
theorem lc_about (C : lawC p s m c b L xs D y A qs q qv) {i : Nat} (hi : i + 6 ≤ L) {xi : Int32} (ei : xi = nI i) (hI : lawI s D y A h a h9 H locs) (hl : lv_has ls 4 [(0, .ref b), (1, .ref h9), (2, .ref h), (3, .int xi)]) (hc : cells + 2 ≤ 600000) (hs : slots + 53 ≤ 7302250)
    (kk : ∀ (H : Heap) (locs : List Loc) (ls : Array Slot), lawI s D y A h a h9 H locs → lv_has ls 4 [(0, .ref b), (1, .ref h9), (2, .ref h), (3, .int xi)] → W p l e room_1 s m #[Value.ref b] below meth c H locs (cells + 2) (slots + 53) Q (F0 m 1157 ls [])) : W p l e room_1 s m #[Value.ref b] below meth c H locs cells slots Q (F0 m 467 ls []) := by
  obtain ⟨ad, x, R, v, n, T, rfl, hR, hr, hw, hS⟩ := hI
  obtain ⟨hx, hb, hml, hown, hts, hX, hbl, hbA, hK, hE, hNN, hSE, hRR, hA, hL⟩ := id C
  have hKm : va_K D vwCl (mT y) s := hK.sub [0, 1, 2, 3] rfl
  have h0 : (0, 0) ∈ R := (hR 0 0).mpr Nat.zero_lt_one
  obtain ⟨P1, P2, hM1, hM2, hf⟩ := both_about (l := l) (D := D) (y := y) (qs := qs) (h := h) (a := a) (ad := ad) hr hR (xs (i + 1)) (xs (i + 2))
  refine lv_aload_n hx hb dL_law_467 rfl (lv_at hl 1 rfl) ?_
  refine lw_arg C hS ei (k := 1) (z := 1) rfl (by omega) hl dL_law_468 dL_law_469 dL_law_470 rfl dL_law_471 dL_law_472 ?_
  refine lw_arg C hS ei (k := 2) (z := 2) rfl (by omega) hl dL_law_473 dL_law_474 dL_law_475 rfl dL_law_476 dL_law_477 ?_
  refine x_calli (As := [.int (xs (i + 1)), .int (xs (i + 2))]) (rest := []) ⟨hx, hb, hml, hown, hts⟩ hM1 (cwV 2 hts gL_X9_about rfl rfl rfl (by decide +kernel) ⟨Nat.le_of_ble_eq_true rfl, Nat.le_of_ble_eq_true rfl⟩) h0 hE hK hw hS hA rfl hl.1 rfl (Nat.le_of_ble_eq_true rfl) dL_law_478 ⟨(by show _ ≤ 600000; omega), (by show _ ≤ 7302250; omega)⟩ (fun r x1 H locs hp1 hw hS => ?_)
  refine lv_aload_n hx hb dL_law_481 rfl (lv_at hl 2 rfl) ?_
  refine lw_arg C hS ei (k := 1) (z := 1) rfl (by omega) hl dL_law_482 dL_law_483 dL_law_484 rfl dL_law_485 dL_law_486 ?_
  refine lw_arg C hS ei (k := 2) (z := 2) rfl (by omega) hl dL_law_487 dL_law_488 dL_law_489 rfl dL_law_490 dL_law_491 ?_
  refine y_calli (As := [.int (xs (i + 1)), .int (xs (i + 2))]) (rest := [.int r]) ⟨hx, hb, hml, hown, hts⟩ hM2 (cwV 2 hts gL_X10_about rfl rfl rfl (by decide +kernel) ⟨Nat.le_of_ble_eq_true rfl, Nat.le_of_ble_eq_true rfl⟩) hKm hw hS hA rfl hl.1 rfl (Nat.le_of_ble_eq_true rfl) dL_law_492 ⟨(by show _ ≤ 600000; omega), (by show _ ≤ 7302250; omega)⟩ (fun r2 v1 H locs hp2 hw hS => ?_)
  obtain ⟨er, hr1⟩ := hf r x1 r2 v1 hp1 hp2
  refine lv_icmp_eq (tgt := 1157) hx hb dL_law_495 (by decide) (fun _ => ?_) (fun c9 => absurd er c9)
  exact W.widen (by omega) (by omega) (kk H locs ls ⟨ad, x1, R, v1, n, T, rfl, hR, hr1, hw, hS⟩ hl)
set_option maxHeartbeats 4000000 in
theorem lc_now (C : lawC p s m c b L xs D y A qs q qv) {i : Nat} (hi : i + 6 ≤ L) {xi : Int32} (ei : xi = nI i) (hI : lawI s D y A h a h9 H locs) (hl : lv_has ls 4 [(0, .ref b), (1, .ref h9), (2, .ref h), (3, .int xi)]) (hc : cells + 2 ≤ 600000) (hs : slots + 53 ≤ 7302250)
    (kk : ∀ (H : Heap) (locs : List Loc) (ls : Array Slot), lawI s D y A h a h9 H locs → lv_has ls 4 [(0, .ref b), (1, .ref h9), (2, .ref h), (3, .int xi)] → W p l e room_1 s m #[Value.ref b] below meth c H locs (cells + 2) (slots + 53) Q (F0 m 1157 ls [])) : W p l e room_1 s m #[Value.ref b] below meth c H locs cells slots Q (F0 m 500 ls []) := by
  obtain ⟨ad, x, R, v, n, T, rfl, hR, hr, hw, hS⟩ := hI
  obtain ⟨hx, hb, hml, hown, hts, hX, hbl, hbA, hK, hE, hNN, hSE, hRR, hA, hL⟩ := id C
  have hKm : va_K D vwCl (mT y) s := hK.sub [0, 1, 2, 3] rfl
  have h0 : (0, 0) ∈ R := (hR 0 0).mpr Nat.zero_lt_one
  obtain ⟨P1, P2, hM1, hM2, hf⟩ := both_now (l := l) (D := D) (y := y) (qs := qs) (h := h) (a := a) (ad := ad) hr hR (xs (i + 1))
  refine lv_aload_n hx hb dL_law_500 rfl (lv_at hl 1 rfl) ?_
  refine lw_arg C hS ei (k := 1) (z := 1) rfl (by omega) hl dL_law_501 dL_law_502 dL_law_503 rfl dL_law_504 dL_law_505 ?_
  refine x_calli (As := [.int (xs (i + 1))]) (rest := []) ⟨hx, hb, hml, hown, hts⟩ hM1 (cwV 1 hts gL_X9_now rfl rfl rfl (by decide +kernel) ⟨Nat.le_of_ble_eq_true rfl, Nat.le_of_ble_eq_true rfl⟩) h0 hE hK hw hS hA rfl hl.1 rfl (Nat.le_of_ble_eq_true rfl) dL_law_506 ⟨(by show _ ≤ 600000; omega), (by show _ ≤ 7302250; omega)⟩ (fun r x1 H locs hp1 hw hS => ?_)
  refine lv_aload_n hx hb dL_law_509 rfl (lv_at hl 2 rfl) ?_
  refine lw_arg C hS ei (k := 1) (z := 1) rfl (by omega) hl dL_law_510 dL_law_511 dL_law_512 rfl dL_law_513 dL_law_514 ?_
  refine y_calli (As := [.int (xs (i + 1))]) (rest := [.int r]) ⟨hx, hb, hml, hown, hts⟩ hM2 (cwV 1 hts gL_X10_now rfl rfl rfl (by decide +kernel) ⟨Nat.le_of_ble_eq_true rfl, Nat.le_of_ble_eq_true rfl⟩) hKm hw hS hA rfl hl.1 rfl (Nat.le_of_ble_eq_true rfl) dL_law_515 ⟨(by show _ ≤ 600000; omega), (by show _ ≤ 7302250; omega)⟩ (fun r2 v1 H locs hp2 hw hS => ?_)
  obtain ⟨er, hr1⟩ := hf r x1 r2 v1 hp1 hp2
  refine lv_icmp_eq (tgt := 1157) hx hb dL_law_518 (by decide) (fun _ => ?_) (fun c9 => absurd er c9)
  exact W.widen (by omega) (by omega) (kk H locs ls ⟨ad, x1, R, v1, n, T, rfl, hR, hr1, hw, hS⟩ hl)
set_option maxHeartbeats 4000000 in
theorem lc_come (C : lawC p s m c b L xs D y A qs q qv) {i : Nat} (hi : i + 6 ≤ L) {xi : Int32} (ei : xi = nI i) (hI : lawI s D y A h a h9 H locs) (hl : lv_has ls 4 [(0, .ref b), (1, .ref h9), (2, .ref h), (3, .int xi)]) (hc : cells + 2 ≤ 600000) (hs : slots + 53 ≤ 7302250)
    (kk : ∀ (H : Heap) (locs : List Loc) (ls : Array Slot), lawI s D y A h a h9 H locs → lv_has ls 4 [(0, .ref b), (1, .ref h9), (2, .ref h), (3, .int xi)] → W p l e room_1 s m #[Value.ref b] below meth c H locs (cells + 2) (slots + 53) Q (F0 m 1157 ls [])) : W p l e room_1 s m #[Value.ref b] below meth c H locs cells slots Q (F0 m 523 ls []) := by
  obtain ⟨ad, x, R, v, n, T, rfl, hR, hr, hw, hS⟩ := hI
  obtain ⟨hx, hb, hml, hown, hts, hX, hbl, hbA, hK, hE, hNN, hSE, hRR, hA, hL⟩ := id C
  have hKm : va_K D vwCl (mT y) s := hK.sub [0, 1, 2, 3] rfl
  have h0 : (0, 0) ∈ R := (hR 0 0).mpr Nat.zero_lt_one
  obtain ⟨P1, P2, hM1, hM2, hf⟩ := both_come (l := l) (D := D) (y := y) (qs := qs) (h := h) (a := a) (ad := ad) hr hR (xs (i + 1))
  refine lv_aload_n hx hb dL_law_523 rfl (lv_at hl 1 rfl) ?_
  refine lw_arg C hS ei (k := 1) (z := 1) rfl (by omega) hl dL_law_524 dL_law_525 dL_law_526 rfl dL_law_527 dL_law_528 ?_
  refine x_calli (As := [.int (xs (i + 1))]) (rest := []) ⟨hx, hb, hml, hown, hts⟩ hM1 (cwV 1 hts gL_X9_come rfl rfl rfl (by decide +kernel) ⟨Nat.le_of_ble_eq_true rfl, Nat.le_of_ble_eq_true rfl⟩) h0 hE hK hw hS hA rfl hl.1 rfl (Nat.le_of_ble_eq_true rfl) dL_law_529 ⟨(by show _ ≤ 600000; omega), (by show _ ≤ 7302250; omega)⟩ (fun r x1 H locs hp1 hw hS => ?_)
  refine lv_aload_n hx hb dL_law_532 rfl (lv_at hl 2 rfl) ?_
  refine lw_arg C hS ei (k := 1) (z := 1) rfl (by omega) hl dL_law_533 dL_law_534 dL_law_535 rfl dL_law_536 dL_law_537 ?_
  refine y_calli (As := [.int (xs (i + 1))]) (rest := [.int r]) ⟨hx, hb, hml, hown, hts⟩ hM2 (cwV 1 hts gL_X10_come rfl rfl rfl (by decide +kernel) ⟨Nat.le_of_ble_eq_true rfl, Nat.le_of_ble_eq_true rfl⟩) hKm hw hS hA rfl hl.1 rfl (Nat.le_of_ble_eq_true rfl) dL_law_538 ⟨(by show _ ≤ 600000; omega), (by show _ ≤ 7302250; omega)⟩ (fun r2 v1 H locs hp2 hw hS => ?_)
  obtain ⟨er, hr1⟩ := hf r x1 r2 v1 hp1 hp2
  refine lv_icmp_eq (tgt := 1157) hx hb dL_law_541 (by decide) (fun _ => ?_) (fun c9 => absurd er c9)
  exact W.widen (by omega) (by omega) (kk H locs ls ⟨ad, x1, R, v1, n, T, rfl, hR, hr1, hw, hS⟩ hl)
set_option maxHeartbeats 4000000 in
theorem lc_rows (C : lawC p s m c b L xs D y A qs q qv) {i : Nat} (hi : i + 6 ≤ L) {xi : Int32} (ei : xi = nI i) (hI : lawI s D y A h a h9 H locs) (hl : lv_has ls 4 [(0, .ref b), (1, .ref h9), (2, .ref h), (3, .int xi)]) (hc : cells + 2 ≤ 600000) (hs : slots + 53 ≤ 7302250)
    (kk : ∀ (H : Heap) (locs : List Loc) (ls : Array Slot), lawI s D y A h a h9 H locs → lv_has ls 4 [(0, .ref b), (1, .ref h9), (2, .ref h), (3, .int xi)] → W p l e room_1 s m #[Value.ref b] below meth c H locs (cells + 2) (slots + 53) Q (F0 m 1157 ls [])) : W p l e room_1 s m #[Value.ref b] below meth c H locs cells slots Q (F0 m 546 ls []) := by
  obtain ⟨ad, x, R, v, n, T, rfl, hR, hr, hw, hS⟩ := hI
  obtain ⟨hx, hb, hml, hown, hts, hX, hbl, hbA, hK, hE, hNN, hSE, hRR, hA, hL⟩ := id C
  have hKm : va_K D vwCl (mT y) s := hK.sub [0, 1, 2, 3] rfl
  have h0 : (0, 0) ∈ R := (hR 0 0).mpr Nat.zero_lt_one
  obtain ⟨P1, P2, hM1, hM2, hf⟩ := both_rows (l := l) (D := D) (y := y) (qs := qs) (h := h) (a := a) (ad := ad) hr hR (xs (i + 1))
  refine lv_aload_n hx hb dL_law_546 rfl (lv_at hl 1 rfl) ?_
  refine lw_arg C hS ei (k := 1) (z := 1) rfl (by omega) hl dL_law_547 dL_law_548 dL_law_549 rfl dL_law_550 dL_law_551 ?_
  refine x_calli (As := [.int (xs (i + 1))]) (rest := []) ⟨hx, hb, hml, hown, hts⟩ hM1 (cwV 1 hts gL_X9_rows rfl rfl rfl (by decide +kernel) ⟨Nat.le_of_ble_eq_true rfl, Nat.le_of_ble_eq_true rfl⟩) h0 hE hK hw hS hA rfl hl.1 rfl (Nat.le_of_ble_eq_true rfl) dL_law_552 ⟨(by show _ ≤ 600000; omega), (by show _ ≤ 7302250; omega)⟩ (fun r x1 H locs hp1 hw hS => ?_)
  refine lv_aload_n hx hb dL_law_555 rfl (lv_at hl 2 rfl) ?_
  refine lw_arg C hS ei (k := 1) (z := 1) rfl (by omega) hl dL_law_556 dL_law_557 dL_law_558 rfl dL_law_559 dL_law_560 ?_
  refine y_calli (As := [.int (xs (i + 1))]) (rest := [.int r]) ⟨hx, hb, hml, hown, hts⟩ hM2 (cwV 1 hts gL_X10_rows rfl rfl rfl (by decide +kernel) ⟨Nat.le_of_ble_eq_true rfl, Nat.le_of_ble_eq_true rfl⟩) hKm hw hS hA rfl hl.1 rfl (Nat.le_of_ble_eq_true rfl) dL_law_561 ⟨(by show _ ≤ 600000; omega), (by show _ ≤ 7302250; omega)⟩ (fun r2 v1 H locs hp2 hw hS => ?_)
  obtain ⟨er, hr1⟩ := hf r x1 r2 v1 hp1 hp2
  refine lv_icmp_eq (tgt := 1157) hx hb dL_law_564 (by decide) (fun _ => ?_) (fun c9 => absurd er c9)
  exact W.widen (by omega) (by omega) (kk H locs ls ⟨ad, x1, R, v1, n, T, rfl, hR, hr1, hw, hS⟩ hl)
set_option maxHeartbeats 4000000 in
theorem lc_draws (C : lawC p s m c b L xs D y A qs q qv) {i : Nat} (hi : i + 6 ≤ L) {xi : Int32} (ei : xi = nI i) (hI : lawI s D y A h a h9 H locs) (hl : lv_has ls 4 [(0, .ref b), (1, .ref h9), (2, .ref h), (3, .int xi)]) (hc : cells + 2 ≤ 600000) (hs : slots + 53 ≤ 7302250)
    (kk : ∀ (H : Heap) (locs : List Loc) (ls : Array Slot), lawI s D y A h a h9 H locs → lv_has ls 4 [(0, .ref b), (1, .ref h9), (2, .ref h), (3, .int xi)] → W p l e room_1 s m #[Value.ref b] below meth c H locs (cells + 2) (slots + 53) Q (F0 m 1157 ls [])) : W p l e room_1 s m #[Value.ref b] below meth c H locs cells slots Q (F0 m 569 ls []) := by
  obtain ⟨ad, x, R, v, n, T, rfl, hR, hr, hw, hS⟩ := hI
  obtain ⟨hx, hb, hml, hown, hts, hX, hbl, hbA, hK, hE, hNN, hSE, hRR, hA, hL⟩ := id C
  have hKm : va_K D vwCl (mT y) s := hK.sub [0, 1, 2, 3] rfl
  have h0 : (0, 0) ∈ R := (hR 0 0).mpr Nat.zero_lt_one
  obtain ⟨P1, P2, hM1, hM2, hf⟩ := both_draws (l := l) (D := D) (y := y) (qs := qs) (h := h) (a := a) (ad := ad) hr hR (xs (i + 1)) (xs (i + 2))
  refine lv_aload_n hx hb dL_law_569 rfl (lv_at hl 1 rfl) ?_
  refine lw_arg C hS ei (k := 1) (z := 1) rfl (by omega) hl dL_law_570 dL_law_571 dL_law_572 rfl dL_law_573 dL_law_574 ?_
  refine lw_arg C hS ei (k := 2) (z := 2) rfl (by omega) hl dL_law_575 dL_law_576 dL_law_577 rfl dL_law_578 dL_law_579 ?_
  refine x_calll (As := [.int (xs (i + 1)), .int (xs (i + 2))]) (rest := []) ⟨hx, hb, hml, hown, hts⟩ hM1 (cwV 2 hts gL_X9_draws rfl rfl rfl (by decide +kernel) ⟨Nat.le_of_ble_eq_true rfl, Nat.le_of_ble_eq_true rfl⟩) h0 hE hK hw hS hA rfl hl.1 rfl (Nat.le_of_ble_eq_true rfl) dL_law_580 ⟨(by show _ ≤ 600000; omega), (by show _ ≤ 7302250; omega)⟩ (fun r x1 H locs hp1 hw hS => ?_)
  refine lv_aload_n hx hb dL_law_583 rfl (lv_at hl 2 rfl) ?_
  refine lw_arg C hS ei (k := 1) (z := 1) rfl (by omega) hl dL_law_584 dL_law_585 dL_law_586 rfl dL_law_587 dL_law_588 ?_
  refine lw_arg C hS ei (k := 2) (z := 2) rfl (by omega) hl dL_law_589 dL_law_590 dL_law_591 rfl dL_law_592 dL_law_593 ?_
  refine y_calll (As := [.int (xs (i + 1)), .int (xs (i + 2))]) (rest := [.long r]) ⟨hx, hb, hml, hown, hts⟩ hM2 (cwV 2 hts gL_X10_draws rfl rfl rfl (by decide +kernel) ⟨Nat.le_of_ble_eq_true rfl, Nat.le_of_ble_eq_true rfl⟩) hKm hw hS hA rfl hl.1 rfl (Nat.le_of_ble_eq_true rfl) dL_law_594 ⟨(by show _ ≤ 600000; omega), (by show _ ≤ 7302250; omega)⟩ (fun r2 v1 H locs hp2 hw hS => ?_)
  obtain ⟨er, hr1⟩ := hf r x1 r2 v1 hp1 hp2
  refine W.lcmp hx hb dL_law_597 ?_
  rw [er, lcmp_0]
  refine lv_if_eq (tgt := 1157) hx hb dL_law_598 (by decide) (fun _ => ?_) (fun c9 => absurd rfl c9)
  exact W.widen (by omega) (by omega) (kk H locs ls ⟨ad, x1, R, v1, n, T, rfl, hR, hr1, hw, hS⟩ hl)
set_option maxHeartbeats 4000000 in
theorem lc_draw (C : lawC p s m c b L xs D y A qs q qv) {i : Nat} (hi : i + 6 ≤ L) {xi : Int32} (ei : xi = nI i) (hI : lawI s D y A h a h9 H locs) (hl : lv_has ls 4 [(0, .ref b), (1, .ref h9), (2, .ref h), (3, .int xi)]) (hc : cells + 2 ≤ 600000) (hs : slots + 53 ≤ 7302250)
    (kk : ∀ (H : Heap) (locs : List Loc) (ls : Array Slot), lawI s D y A h a h9 H locs → lv_has ls 4 [(0, .ref b), (1, .ref h9), (2, .ref h), (3, .int xi)] → W p l e room_1 s m #[Value.ref b] below meth c H locs (cells + 2) (slots + 53) Q (F0 m 1157 ls [])) : W p l e room_1 s m #[Value.ref b] below meth c H locs cells slots Q (F0 m 603 ls []) := by
  obtain ⟨ad, x, R, v, n, T, rfl, hR, hr, hw, hS⟩ := hI
  obtain ⟨hx, hb, hml, hown, hts, hX, hbl, hbA, hK, hE, hNN, hSE, hRR, hA, hL⟩ := id C
  have hKm : va_K D vwCl (mT y) s := hK.sub [0, 1, 2, 3] rfl
  have h0 : (0, 0) ∈ R := (hR 0 0).mpr Nat.zero_lt_one
  obtain ⟨P1, P2, hM1, hM2, hf⟩ := both_draw (l := l) (D := D) (y := y) (qs := qs) (h := h) (a := a) (ad := ad) hr hR (xs (i + 1)) (xs (i + 2)) (lnum (xs (i + 3)) (xs (i + 4)))
  refine lv_aload_n hx hb dL_law_603 rfl (lv_at hl 1 rfl) ?_
  refine lw_arg C hS ei (k := 1) (z := 1) rfl (by omega) hl dL_law_604 dL_law_605 dL_law_606 rfl dL_law_607 dL_law_608 ?_
  refine lw_arg C hS ei (k := 2) (z := 2) rfl (by omega) hl dL_law_609 dL_law_610 dL_law_611 rfl dL_law_612 dL_law_613 ?_
  refine lw_arg C hS ei (k := 3) (z := 3) rfl (by omega) hl dL_law_614 dL_law_615 dL_law_616 rfl dL_law_617 dL_law_618 ?_
  refine lv_i2l hx hb dL_law_619 rfl ?_
  refine lv_bipush (v := 32) hx hb dL_law_620 (by decide) ?_
  refine lv_lshl hx hb dL_law_622 rfl ?_
  refine lw_arg C hS ei (k := 4) (z := 4) rfl (by omega) hl dL_law_623 dL_law_624 dL_law_625 rfl dL_law_626 dL_law_627 ?_
  refine lv_i2l hx hb dL_law_628 rfl ?_
  refine lv_ldc2 (v := 4294967295) hx hb hown (hts (.constantLong RL 74 4294967295) (inR1 _ (li 6 rfl))) dL_law_629 ?_
  refine lv_land hx hb dL_law_632 ?_
  refine lv_lor hx hb dL_law_633 ?_
  refine x_calli (As := [.int (xs (i + 1)), .int (xs (i + 2)), .long (lnum (xs (i + 3)) (xs (i + 4)))]) (rest := []) ⟨hx, hb, hml, hown, hts⟩ hM1 (cwV 3 hts gL_X9_draw rfl rfl rfl (by decide +kernel) ⟨Nat.le_of_ble_eq_true rfl, Nat.le_of_ble_eq_true rfl⟩) h0 hE hK hw hS hA rfl hl.1 rfl (Nat.le_of_ble_eq_true rfl) dL_law_634 ⟨(by show _ ≤ 600000; omega), (by show _ ≤ 7302250; omega)⟩ (fun r x1 H locs hp1 hw hS => ?_)
  refine lv_aload_n hx hb dL_law_637 rfl (lv_at hl 2 rfl) ?_
  refine lw_arg C hS ei (k := 1) (z := 1) rfl (by omega) hl dL_law_638 dL_law_639 dL_law_640 rfl dL_law_641 dL_law_642 ?_
  refine lw_arg C hS ei (k := 2) (z := 2) rfl (by omega) hl dL_law_643 dL_law_644 dL_law_645 rfl dL_law_646 dL_law_647 ?_
  refine lw_arg C hS ei (k := 3) (z := 3) rfl (by omega) hl dL_law_648 dL_law_649 dL_law_650 rfl dL_law_651 dL_law_652 ?_
  refine lv_i2l hx hb dL_law_653 rfl ?_
  refine lv_bipush (v := 32) hx hb dL_law_654 (by decide) ?_
  refine lv_lshl hx hb dL_law_656 rfl ?_
  refine lw_arg C hS ei (k := 4) (z := 4) rfl (by omega) hl dL_law_657 dL_law_658 dL_law_659 rfl dL_law_660 dL_law_661 ?_
  refine lv_i2l hx hb dL_law_662 rfl ?_
  refine lv_ldc2 (v := 4294967295) hx hb hown (hts (.constantLong RL 74 4294967295) (inR1 _ (li 6 rfl))) dL_law_663 ?_
  refine lv_land hx hb dL_law_666 ?_
  refine lv_lor hx hb dL_law_667 ?_
  refine y_calli (As := [.int (xs (i + 1)), .int (xs (i + 2)), .long (lnum (xs (i + 3)) (xs (i + 4)))]) (rest := [.int r]) ⟨hx, hb, hml, hown, hts⟩ hM2 (cwV 3 hts gL_X10_draw rfl rfl rfl (by decide +kernel) ⟨Nat.le_of_ble_eq_true rfl, Nat.le_of_ble_eq_true rfl⟩) hKm hw hS hA rfl hl.1 rfl (Nat.le_of_ble_eq_true rfl) dL_law_668 ⟨(by show _ ≤ 600000; omega), (by show _ ≤ 7302250; omega)⟩ (fun r2 v1 H locs hp2 hw hS => ?_)
  obtain ⟨er, hr1⟩ := hf r x1 r2 v1 hp1 hp2
  refine lv_icmp_eq (tgt := 1157) hx hb dL_law_671 (by decide) (fun _ => ?_) (fun c9 => absurd er c9)
  exact W.widen (by omega) (by omega) (kk H locs ls ⟨ad, x1, R, v1, n, T, rfl, hR, hr1, hw, hS⟩ hl)
set_option maxHeartbeats 4000000 in
theorem lc_chances (C : lawC p s m c b L xs D y A qs q qv) {i : Nat} (hi : i + 6 ≤ L) {xi : Int32} (ei : xi = nI i) (hI : lawI s D y A h a h9 H locs) (hl : lv_has ls 4 [(0, .ref b), (1, .ref h9), (2, .ref h), (3, .int xi)]) (hc : cells + 2 ≤ 600000) (hs : slots + 53 ≤ 7302250)
    (kk : ∀ (H : Heap) (locs : List Loc) (ls : Array Slot), lawI s D y A h a h9 H locs → lv_has ls 4 [(0, .ref b), (1, .ref h9), (2, .ref h), (3, .int xi)] → W p l e room_1 s m #[Value.ref b] below meth c H locs (cells + 2) (slots + 53) Q (F0 m 1157 ls [])) : W p l e room_1 s m #[Value.ref b] below meth c H locs cells slots Q (F0 m 676 ls []) := by
  obtain ⟨ad, x, R, v, n, T, rfl, hR, hr, hw, hS⟩ := hI
  obtain ⟨hx, hb, hml, hown, hts, hX, hbl, hbA, hK, hE, hNN, hSE, hRR, hA, hL⟩ := id C
  have hKm : va_K D vwCl (mT y) s := hK.sub [0, 1, 2, 3] rfl
  have h0 : (0, 0) ∈ R := (hR 0 0).mpr Nat.zero_lt_one
  obtain ⟨P1, P2, hM1, hM2, hf⟩ := both_chances (l := l) (D := D) (y := y) (qs := qs) (h := h) (a := a) (ad := ad) hr hR (xs (i + 1)) (xs (i + 2))
  refine lv_aload_n hx hb dL_law_676 rfl (lv_at hl 1 rfl) ?_
  refine lw_arg C hS ei (k := 1) (z := 1) rfl (by omega) hl dL_law_677 dL_law_678 dL_law_679 rfl dL_law_680 dL_law_681 ?_
  refine lw_arg C hS ei (k := 2) (z := 2) rfl (by omega) hl dL_law_682 dL_law_683 dL_law_684 rfl dL_law_685 dL_law_686 ?_
  refine x_calll (As := [.int (xs (i + 1)), .int (xs (i + 2))]) (rest := []) ⟨hx, hb, hml, hown, hts⟩ hM1 (cwV 2 hts gL_X9_chances rfl rfl rfl (by decide +kernel) ⟨Nat.le_of_ble_eq_true rfl, Nat.le_of_ble_eq_true rfl⟩) h0 hE hK hw hS hA rfl hl.1 rfl (Nat.le_of_ble_eq_true rfl) dL_law_687 ⟨(by show _ ≤ 600000; omega), (by show _ ≤ 7302250; omega)⟩ (fun r x1 H locs hp1 hw hS => ?_)
  refine lv_aload_n hx hb dL_law_690 rfl (lv_at hl 2 rfl) ?_
  refine lw_arg C hS ei (k := 1) (z := 1) rfl (by omega) hl dL_law_691 dL_law_692 dL_law_693 rfl dL_law_694 dL_law_695 ?_
  refine lw_arg C hS ei (k := 2) (z := 2) rfl (by omega) hl dL_law_696 dL_law_697 dL_law_698 rfl dL_law_699 dL_law_700 ?_
  refine y_calll (As := [.int (xs (i + 1)), .int (xs (i + 2))]) (rest := [.long r]) ⟨hx, hb, hml, hown, hts⟩ hM2 (cwV 2 hts gL_X10_chances rfl rfl rfl (by decide +kernel) ⟨Nat.le_of_ble_eq_true rfl, Nat.le_of_ble_eq_true rfl⟩) hKm hw hS hA rfl hl.1 rfl (Nat.le_of_ble_eq_true rfl) dL_law_701 ⟨(by show _ ≤ 600000; omega), (by show _ ≤ 7302250; omega)⟩ (fun r2 v1 H locs hp2 hw hS => ?_)
  obtain ⟨er, hr1⟩ := hf r x1 r2 v1 hp1 hp2
  refine W.lcmp hx hb dL_law_704 ?_
  rw [er, lcmp_0]
  refine lv_if_eq (tgt := 1157) hx hb dL_law_705 (by decide) (fun _ => ?_) (fun c9 => absurd rfl c9)
  exact W.widen (by omega) (by omega) (kk H locs ls ⟨ad, x1, R, v1, n, T, rfl, hR, hr1, hw, hS⟩ hl)
set_option maxHeartbeats 4000000 in
theorem lc_bribed (C : lawC p s m c b L xs D y A qs q qv) {i : Nat} (hi : i + 6 ≤ L) {xi : Int32} (ei : xi = nI i) (hI : lawI s D y A h a h9 H locs) (hl : lv_has ls 4 [(0, .ref b), (1, .ref h9), (2, .ref h), (3, .int xi)]) (hc : cells + 2 ≤ 600000) (hs : slots + 53 ≤ 7302250)
    (kk : ∀ (H : Heap) (locs : List Loc) (ls : Array Slot), lawI s D y A h a h9 H locs → lv_has ls 4 [(0, .ref b), (1, .ref h9), (2, .ref h), (3, .int xi)] → W p l e room_1 s m #[Value.ref b] below meth c H locs (cells + 2) (slots + 53) Q (F0 m 1157 ls [])) : W p l e room_1 s m #[Value.ref b] below meth c H locs cells slots Q (F0 m 710 ls []) := by
  obtain ⟨ad, x, R, v, n, T, rfl, hR, hr, hw, hS⟩ := hI
  obtain ⟨hx, hb, hml, hown, hts, hX, hbl, hbA, hK, hE, hNN, hSE, hRR, hA, hL⟩ := id C
  have hKm : va_K D vwCl (mT y) s := hK.sub [0, 1, 2, 3] rfl
  have h0 : (0, 0) ∈ R := (hR 0 0).mpr Nat.zero_lt_one
  obtain ⟨P1, P2, hM1, hM2, hf⟩ := both_bribed (l := l) (D := D) (y := y) (qs := qs) (h := h) (a := a) (ad := ad) hr hR (xs (i + 1)) (xs (i + 2)) (lnum (xs (i + 3)) (xs (i + 4))) (xs (i + 5))
  refine lv_aload_n hx hb dL_law_710 rfl (lv_at hl 1 rfl) ?_
  refine lw_arg C hS ei (k := 1) (z := 1) rfl (by omega) hl dL_law_711 dL_law_712 dL_law_713 rfl dL_law_714 dL_law_715 ?_
  refine lw_arg C hS ei (k := 2) (z := 2) rfl (by omega) hl dL_law_716 dL_law_717 dL_law_718 rfl dL_law_719 dL_law_720 ?_
  refine lw_arg C hS ei (k := 3) (z := 3) rfl (by omega) hl dL_law_721 dL_law_722 dL_law_723 rfl dL_law_724 dL_law_725 ?_
  refine lv_i2l hx hb dL_law_726 rfl ?_
  refine lv_bipush (v := 32) hx hb dL_law_727 (by decide) ?_
  refine lv_lshl hx hb dL_law_729 rfl ?_
  refine lw_arg C hS ei (k := 4) (z := 4) rfl (by omega) hl dL_law_730 dL_law_731 dL_law_732 rfl dL_law_733 dL_law_734 ?_
  refine lv_i2l hx hb dL_law_735 rfl ?_
  refine lv_ldc2 (v := 4294967295) hx hb hown (hts (.constantLong RL 74 4294967295) (inR1 _ (li 6 rfl))) dL_law_736 ?_
  refine lv_land hx hb dL_law_739 ?_
  refine lv_lor hx hb dL_law_740 ?_
  refine lw_arg C hS ei (k := 5) (z := 5) rfl (by omega) hl dL_law_741 dL_law_742 dL_law_743 rfl dL_law_744 dL_law_745 ?_
  refine x_calll (As := [.int (xs (i + 1)), .int (xs (i + 2)), .long (lnum (xs (i + 3)) (xs (i + 4))), .int (xs (i + 5))]) (rest := []) ⟨hx, hb, hml, hown, hts⟩ hM1 (cwV 4 hts gL_X9_bribed rfl rfl rfl (by decide +kernel) ⟨Nat.le_of_ble_eq_true rfl, Nat.le_of_ble_eq_true rfl⟩) h0 hE hK hw hS hA rfl hl.1 rfl (Nat.le_of_ble_eq_true rfl) dL_law_746 ⟨(by show _ ≤ 600000; omega), (by show _ ≤ 7302250; omega)⟩ (fun r x1 H locs hp1 hw hS => ?_)
  refine lv_aload_n hx hb dL_law_749 rfl (lv_at hl 2 rfl) ?_
  refine lw_arg C hS ei (k := 1) (z := 1) rfl (by omega) hl dL_law_750 dL_law_751 dL_law_752 rfl dL_law_753 dL_law_754 ?_
  refine lw_arg C hS ei (k := 2) (z := 2) rfl (by omega) hl dL_law_755 dL_law_756 dL_law_757 rfl dL_law_758 dL_law_759 ?_
  refine lw_arg C hS ei (k := 3) (z := 3) rfl (by omega) hl dL_law_760 dL_law_761 dL_law_762 rfl dL_law_763 dL_law_764 ?_
  refine lv_i2l hx hb dL_law_765 rfl ?_
  refine lv_bipush (v := 32) hx hb dL_law_766 (by decide) ?_
  refine lv_lshl hx hb dL_law_768 rfl ?_
  refine lw_arg C hS ei (k := 4) (z := 4) rfl (by omega) hl dL_law_769 dL_law_770 dL_law_771 rfl dL_law_772 dL_law_773 ?_
  refine lv_i2l hx hb dL_law_774 rfl ?_
  refine lv_ldc2 (v := 4294967295) hx hb hown (hts (.constantLong RL 74 4294967295) (inR1 _ (li 6 rfl))) dL_law_775 ?_
  refine lv_land hx hb dL_law_778 ?_
  refine lv_lor hx hb dL_law_779 ?_
  refine lw_arg C hS ei (k := 5) (z := 5) rfl (by omega) hl dL_law_780 dL_law_781 dL_law_782 rfl dL_law_783 dL_law_784 ?_
  refine y_calll (As := [.int (xs (i + 1)), .int (xs (i + 2)), .long (lnum (xs (i + 3)) (xs (i + 4))), .int (xs (i + 5))]) (rest := [.long r]) ⟨hx, hb, hml, hown, hts⟩ hM2 (cwV 4 hts gL_X10_bribed rfl rfl rfl (by decide +kernel) ⟨Nat.le_of_ble_eq_true rfl, Nat.le_of_ble_eq_true rfl⟩) hKm hw hS hA rfl hl.1 rfl (Nat.le_of_ble_eq_true rfl) dL_law_785 ⟨(by show _ ≤ 600000; omega), (by show _ ≤ 7302250; omega)⟩ (fun r2 v1 H locs hp2 hw hS => ?_)
  obtain ⟨er, hr1⟩ := hf r x1 r2 v1 hp1 hp2
  refine W.lcmp hx hb dL_law_788 ?_
  rw [er, lcmp_0]
  refine lv_if_eq (tgt := 1157) hx hb dL_law_789 (by decide) (fun _ => ?_) (fun c9 => absurd rfl c9)
  exact W.widen (by omega) (by omega) (kk H locs ls ⟨ad, x1, R, v1, n, T, rfl, hR, hr1, hw, hS⟩ hl)
set_option maxHeartbeats 4000000 in
theorem lc_chosen (C : lawC p s m c b L xs D y A qs q qv) {i : Nat} (hi : i + 6 ≤ L) {xi : Int32} (ei : xi = nI i) (hI : lawI s D y A h a h9 H locs) (hl : lv_has ls 4 [(0, .ref b), (1, .ref h9), (2, .ref h), (3, .int xi)]) (hc : cells + 2 ≤ 600000) (hs : slots + 53 ≤ 7302250)
    (kk : ∀ (H : Heap) (locs : List Loc) (ls : Array Slot), lawI s D y A h a h9 H locs → lv_has ls 4 [(0, .ref b), (1, .ref h9), (2, .ref h), (3, .int xi)] → W p l e room_1 s m #[Value.ref b] below meth c H locs (cells + 2) (slots + 53) Q (F0 m 1157 ls [])) : W p l e room_1 s m #[Value.ref b] below meth c H locs cells slots Q (F0 m 794 ls []) := by
  obtain ⟨ad, x, R, v, n, T, rfl, hR, hr, hw, hS⟩ := hI
  obtain ⟨hx, hb, hml, hown, hts, hX, hbl, hbA, hK, hE, hNN, hSE, hRR, hA, hL⟩ := id C
  have hKm : va_K D vwCl (mT y) s := hK.sub [0, 1, 2, 3] rfl
  have h0 : (0, 0) ∈ R := (hR 0 0).mpr Nat.zero_lt_one
  obtain ⟨P1, P2, hM1, hM2, hf⟩ := both_chosen (l := l) (D := D) (y := y) (qs := qs) (h := h) (a := a) (ad := ad) hr hR (xs (i + 1))
  refine lv_aload_n hx hb dL_law_794 rfl (lv_at hl 1 rfl) ?_
  refine lw_arg C hS ei (k := 1) (z := 1) rfl (by omega) hl dL_law_795 dL_law_796 dL_law_797 rfl dL_law_798 dL_law_799 ?_
  refine x_calli (As := [.int (xs (i + 1))]) (rest := []) ⟨hx, hb, hml, hown, hts⟩ hM1 (cwV 1 hts gL_X9_chosen rfl rfl rfl (by decide +kernel) ⟨Nat.le_of_ble_eq_true rfl, Nat.le_of_ble_eq_true rfl⟩) h0 hE hK hw hS hA rfl hl.1 rfl (Nat.le_of_ble_eq_true rfl) dL_law_800 ⟨(by show _ ≤ 600000; omega), (by show _ ≤ 7302250; omega)⟩ (fun r x1 H locs hp1 hw hS => ?_)
  refine lv_aload_n hx hb dL_law_803 rfl (lv_at hl 2 rfl) ?_
  refine lw_arg C hS ei (k := 1) (z := 1) rfl (by omega) hl dL_law_804 dL_law_805 dL_law_806 rfl dL_law_807 dL_law_808 ?_
  refine y_calli (As := [.int (xs (i + 1))]) (rest := [.int r]) ⟨hx, hb, hml, hown, hts⟩ hM2 (cwV 1 hts gL_X10_chosen rfl rfl rfl (by decide +kernel) ⟨Nat.le_of_ble_eq_true rfl, Nat.le_of_ble_eq_true rfl⟩) hKm hw hS hA rfl hl.1 rfl (Nat.le_of_ble_eq_true rfl) dL_law_809 ⟨(by show _ ≤ 600000; omega), (by show _ ≤ 7302250; omega)⟩ (fun r2 v1 H locs hp2 hw hS => ?_)
  obtain ⟨er, hr1⟩ := hf r x1 r2 v1 hp1 hp2
  refine lv_icmp_eq (tgt := 1157) hx hb dL_law_812 (by decide) (fun _ => ?_) (fun c9 => absurd er c9)
  exact W.widen (by omega) (by omega) (kk H locs ls ⟨ad, x1, R, v1, n, T, rfl, hR, hr1, hw, hS⟩ hl)
set_option maxHeartbeats 4000000 in
theorem lc_open (C : lawC p s m c b L xs D y A qs q qv) {i : Nat} (hi : i + 6 ≤ L) {xi : Int32} (ei : xi = nI i) (hI : lawI s D y A h a h9 H locs) (hl : lv_has ls 4 [(0, .ref b), (1, .ref h9), (2, .ref h), (3, .int xi)]) (hc : cells + 2 ≤ 600000) (hs : slots + 53 ≤ 7302250)
    (kk : ∀ (H : Heap) (locs : List Loc) (ls : Array Slot), lawI s D y A h a h9 H locs → lv_has ls 4 [(0, .ref b), (1, .ref h9), (2, .ref h), (3, .int xi)] → W p l e room_1 s m #[Value.ref b] below meth c H locs (cells + 2) (slots + 53) Q (F0 m 1157 ls [])) : W p l e room_1 s m #[Value.ref b] below meth c H locs cells slots Q (F0 m 817 ls []) := by
  obtain ⟨ad, x, R, v, n, T, rfl, hR, hr, hw, hS⟩ := hI
  obtain ⟨hx, hb, hml, hown, hts, hX, hbl, hbA, hK, hE, hNN, hSE, hRR, hA, hL⟩ := id C
  have hKm : va_K D vwCl (mT y) s := hK.sub [0, 1, 2, 3] rfl
  have h0 : (0, 0) ∈ R := (hR 0 0).mpr Nat.zero_lt_one
  obtain ⟨P1, P2, hM1, hM2, hf⟩ := both_open (l := l) (D := D) (y := y) (qs := qs) (h := h) (a := a) (ad := ad) hr hR (xs (i + 1)) (xs (i + 2))
  refine lv_aload_n hx hb dL_law_817 rfl (lv_at hl 1 rfl) ?_
  refine lw_arg C hS ei (k := 1) (z := 1) rfl (by omega) hl dL_law_818 dL_law_819 dL_law_820 rfl dL_law_821 dL_law_822 ?_
  refine lw_arg C hS ei (k := 2) (z := 2) rfl (by omega) hl dL_law_823 dL_law_824 dL_law_825 rfl dL_law_826 dL_law_827 ?_
  refine x_calli (As := [.int (xs (i + 1)), .int (xs (i + 2))]) (rest := []) ⟨hx, hb, hml, hown, hts⟩ hM1 (cwV 2 hts gL_X9_open rfl rfl rfl (by decide +kernel) ⟨Nat.le_of_ble_eq_true rfl, Nat.le_of_ble_eq_true rfl⟩) h0 hE hK hw hS hA rfl hl.1 rfl (Nat.le_of_ble_eq_true rfl) dL_law_828 ⟨(by show _ ≤ 600000; omega), (by show _ ≤ 7302250; omega)⟩ (fun r x1 H locs hp1 hw hS => ?_)
  refine lv_aload_n hx hb dL_law_831 rfl (lv_at hl 2 rfl) ?_
  refine lw_arg C hS ei (k := 1) (z := 1) rfl (by omega) hl dL_law_832 dL_law_833 dL_law_834 rfl dL_law_835 dL_law_836 ?_
  refine lw_arg C hS ei (k := 2) (z := 2) rfl (by omega) hl dL_law_837 dL_law_838 dL_law_839 rfl dL_law_840 dL_law_841 ?_
  refine y_calli (As := [.int (xs (i + 1)), .int (xs (i + 2))]) (rest := [.int r]) ⟨hx, hb, hml, hown, hts⟩ hM2 (cwV 2 hts gL_X10_open rfl rfl rfl (by decide +kernel) ⟨Nat.le_of_ble_eq_true rfl, Nat.le_of_ble_eq_true rfl⟩) hKm hw hS hA rfl hl.1 rfl (Nat.le_of_ble_eq_true rfl) dL_law_842 ⟨(by show _ ≤ 600000; omega), (by show _ ≤ 7302250; omega)⟩ (fun r2 v1 H locs hp2 hw hS => ?_)
  obtain ⟨er, hr1⟩ := hf r x1 r2 v1 hp1 hp2
  refine lv_icmp_eq (tgt := 1157) hx hb dL_law_845 (by decide) (fun _ => ?_) (fun c9 => absurd er c9)
  exact W.widen (by omega) (by omega) (kk H locs ls ⟨ad, x1, R, v1, n, T, rfl, hR, hr1, hw, hS⟩ hl)
set_option maxHeartbeats 4000000 in
theorem lc_lot (C : lawC p s m c b L xs D y A qs q qv) {i : Nat} (hi : i + 6 ≤ L) {xi : Int32} (ei : xi = nI i) (hI : lawI s D y A h a h9 H locs) (hl : lv_has ls 4 [(0, .ref b), (1, .ref h9), (2, .ref h), (3, .int xi)]) (hc : cells + 2 ≤ 600000) (hs : slots + 53 ≤ 7302250)
    (kk : ∀ (H : Heap) (locs : List Loc) (ls : Array Slot), lawI s D y A h a h9 H locs → lv_has ls 4 [(0, .ref b), (1, .ref h9), (2, .ref h), (3, .int xi)] → W p l e room_1 s m #[Value.ref b] below meth c H locs (cells + 2) (slots + 53) Q (F0 m 1157 ls [])) : W p l e room_1 s m #[Value.ref b] below meth c H locs cells slots Q (F0 m 850 ls []) := by
  obtain ⟨ad, x, R, v, n, T, rfl, hR, hr, hw, hS⟩ := hI
  obtain ⟨hx, hb, hml, hown, hts, hX, hbl, hbA, hK, hE, hNN, hSE, hRR, hA, hL⟩ := id C
  have hKm : va_K D vwCl (mT y) s := hK.sub [0, 1, 2, 3] rfl
  have h0 : (0, 0) ∈ R := (hR 0 0).mpr Nat.zero_lt_one
  obtain ⟨P1, P2, hM1, hM2, hf⟩ := both_lot (l := l) (D := D) (y := y) (qs := qs) (h := h) (a := a) (ad := ad) hr hR (xs (i + 1))
  refine lv_aload_n hx hb dL_law_850 rfl (lv_at hl 1 rfl) ?_
  refine lw_arg C hS ei (k := 1) (z := 1) rfl (by omega) hl dL_law_851 dL_law_852 dL_law_853 rfl dL_law_854 dL_law_855 ?_
  refine x_calli (As := [.int (xs (i + 1))]) (rest := []) ⟨hx, hb, hml, hown, hts⟩ hM1 (cwV 1 hts gL_X9_lot rfl rfl rfl (by decide +kernel) ⟨Nat.le_of_ble_eq_true rfl, Nat.le_of_ble_eq_true rfl⟩) h0 hE hK hw hS hA rfl hl.1 rfl (Nat.le_of_ble_eq_true rfl) dL_law_856 ⟨(by show _ ≤ 600000; omega), (by show _ ≤ 7302250; omega)⟩ (fun r x1 H locs hp1 hw hS => ?_)
  refine lv_aload_n hx hb dL_law_859 rfl (lv_at hl 2 rfl) ?_
  refine lw_arg C hS ei (k := 1) (z := 1) rfl (by omega) hl dL_law_860 dL_law_861 dL_law_862 rfl dL_law_863 dL_law_864 ?_
  refine y_calli (As := [.int (xs (i + 1))]) (rest := [.int r]) ⟨hx, hb, hml, hown, hts⟩ hM2 (cwV 1 hts gL_X10_lot rfl rfl rfl (by decide +kernel) ⟨Nat.le_of_ble_eq_true rfl, Nat.le_of_ble_eq_true rfl⟩) hKm hw hS hA rfl hl.1 rfl (Nat.le_of_ble_eq_true rfl) dL_law_865 ⟨(by show _ ≤ 600000; omega), (by show _ ≤ 7302250; omega)⟩ (fun r2 v1 H locs hp2 hw hS => ?_)
  obtain ⟨er, hr1⟩ := hf r x1 r2 v1 hp1 hp2
  refine lv_icmp_eq (tgt := 1157) hx hb dL_law_868 (by decide) (fun _ => ?_) (fun c9 => absurd er c9)
  exact W.widen (by omega) (by omega) (kk H locs ls ⟨ad, x1, R, v1, n, T, rfl, hR, hr1, hw, hS⟩ hl)
set_option maxHeartbeats 4000000 in
theorem lc_seat (C : lawC p s m c b L xs D y A qs q qv) {i : Nat} (hi : i + 6 ≤ L) {xi : Int32} (ei : xi = nI i) (hI : lawI s D y A h a h9 H locs) (hl : lv_has ls 4 [(0, .ref b), (1, .ref h9), (2, .ref h), (3, .int xi)]) (hc : cells + 2 ≤ 600000) (hs : slots + 53 ≤ 7302250)
    (kk : ∀ (H : Heap) (locs : List Loc) (ls : Array Slot), lawI s D y A h a h9 H locs → lv_has ls 4 [(0, .ref b), (1, .ref h9), (2, .ref h), (3, .int xi)] → W p l e room_1 s m #[Value.ref b] below meth c H locs (cells + 2) (slots + 53) Q (F0 m 1157 ls [])) : W p l e room_1 s m #[Value.ref b] below meth c H locs cells slots Q (F0 m 873 ls []) := by
  obtain ⟨ad, x, R, v, n, T, rfl, hR, hr, hw, hS⟩ := hI
  obtain ⟨hx, hb, hml, hown, hts, hX, hbl, hbA, hK, hE, hNN, hSE, hRR, hA, hL⟩ := id C
  have hKm : va_K D vwCl (mT y) s := hK.sub [0, 1, 2, 3] rfl
  have h0 : (0, 0) ∈ R := (hR 0 0).mpr Nat.zero_lt_one
  obtain ⟨P1, P2, hM1, hM2, hf⟩ := both_seat (l := l) (D := D) (y := y) (qs := qs) (h := h) (a := a) (ad := ad) hr hR (xs (i + 1)) (xs (i + 2))
  refine lv_aload_n hx hb dL_law_873 rfl (lv_at hl 1 rfl) ?_
  refine lw_arg C hS ei (k := 1) (z := 1) rfl (by omega) hl dL_law_874 dL_law_875 dL_law_876 rfl dL_law_877 dL_law_878 ?_
  refine lw_arg C hS ei (k := 2) (z := 2) rfl (by omega) hl dL_law_879 dL_law_880 dL_law_881 rfl dL_law_882 dL_law_883 ?_
  refine x_calli (As := [.int (xs (i + 1)), .int (xs (i + 2))]) (rest := []) ⟨hx, hb, hml, hown, hts⟩ hM1 (cwV 2 hts gL_X9_seat rfl rfl rfl (by decide +kernel) ⟨Nat.le_of_ble_eq_true rfl, Nat.le_of_ble_eq_true rfl⟩) h0 hE hK hw hS hA rfl hl.1 rfl (Nat.le_of_ble_eq_true rfl) dL_law_884 ⟨(by show _ ≤ 600000; omega), (by show _ ≤ 7302250; omega)⟩ (fun r x1 H locs hp1 hw hS => ?_)
  refine lv_aload_n hx hb dL_law_887 rfl (lv_at hl 2 rfl) ?_
  refine lw_arg C hS ei (k := 1) (z := 1) rfl (by omega) hl dL_law_888 dL_law_889 dL_law_890 rfl dL_law_891 dL_law_892 ?_
  refine lw_arg C hS ei (k := 2) (z := 2) rfl (by omega) hl dL_law_893 dL_law_894 dL_law_895 rfl dL_law_896 dL_law_897 ?_
  refine y_calli (As := [.int (xs (i + 1)), .int (xs (i + 2))]) (rest := [.int r]) ⟨hx, hb, hml, hown, hts⟩ hM2 (cwV 2 hts gL_X10_seat rfl rfl rfl (by decide +kernel) ⟨Nat.le_of_ble_eq_true rfl, Nat.le_of_ble_eq_true rfl⟩) hKm hw hS hA rfl hl.1 rfl (Nat.le_of_ble_eq_true rfl) dL_law_898 ⟨(by show _ ≤ 600000; omega), (by show _ ≤ 7302250; omega)⟩ (fun r2 v1 H locs hp2 hw hS => ?_)
  obtain ⟨er, hr1⟩ := hf r x1 r2 v1 hp1 hp2
  refine lv_icmp_eq (tgt := 1157) hx hb dL_law_901 (by decide) (fun _ => ?_) (fun c9 => absurd er c9)
  exact W.widen (by omega) (by omega) (kk H locs ls ⟨ad, x1, R, v1, n, T, rfl, hR, hr1, hw, hS⟩ hl)
set_option maxHeartbeats 4000000 in
theorem lc_suit (C : lawC p s m c b L xs D y A qs q qv) {i : Nat} (hi : i + 6 ≤ L) {xi : Int32} (ei : xi = nI i) (hI : lawI s D y A h a h9 H locs) (hl : lv_has ls 4 [(0, .ref b), (1, .ref h9), (2, .ref h), (3, .int xi)]) (hc : cells + 2 ≤ 600000) (hs : slots + 53 ≤ 7302250)
    (kk : ∀ (H : Heap) (locs : List Loc) (ls : Array Slot), lawI s D y A h a h9 H locs → lv_has ls 4 [(0, .ref b), (1, .ref h9), (2, .ref h), (3, .int xi)] → W p l e room_1 s m #[Value.ref b] below meth c H locs (cells + 2) (slots + 53) Q (F0 m 1157 ls [])) : W p l e room_1 s m #[Value.ref b] below meth c H locs cells slots Q (F0 m 906 ls []) := by
  obtain ⟨ad, x, R, v, n, T, rfl, hR, hr, hw, hS⟩ := hI
  obtain ⟨hx, hb, hml, hown, hts, hX, hbl, hbA, hK, hE, hNN, hSE, hRR, hA, hL⟩ := id C
  have hKm : va_K D vwCl (mT y) s := hK.sub [0, 1, 2, 3] rfl
  have h0 : (0, 0) ∈ R := (hR 0 0).mpr Nat.zero_lt_one
  obtain ⟨P1, P2, hM1, hM2, hf⟩ := both_suit (l := l) (D := D) (y := y) (qs := qs) (h := h) (a := a) (ad := ad) hr hR (xs (i + 1)) (xs (i + 2)) (xs (i + 3)) (xs (i + 4)) (xs (i + 5))
  refine lv_aload_n hx hb dL_law_906 rfl (lv_at hl 1 rfl) ?_
  refine lw_arg C hS ei (k := 1) (z := 1) rfl (by omega) hl dL_law_907 dL_law_908 dL_law_909 rfl dL_law_910 dL_law_911 ?_
  refine lw_arg C hS ei (k := 2) (z := 2) rfl (by omega) hl dL_law_912 dL_law_913 dL_law_914 rfl dL_law_915 dL_law_916 ?_
  refine lw_arg C hS ei (k := 3) (z := 3) rfl (by omega) hl dL_law_917 dL_law_918 dL_law_919 rfl dL_law_920 dL_law_921 ?_
  refine lw_arg C hS ei (k := 4) (z := 4) rfl (by omega) hl dL_law_922 dL_law_923 dL_law_924 rfl dL_law_925 dL_law_926 ?_
  refine lw_arg C hS ei (k := 5) (z := 5) rfl (by omega) hl dL_law_927 dL_law_928 dL_law_929 rfl dL_law_930 dL_law_931 ?_
  refine x_calli (As := [.int (xs (i + 1)), .int (xs (i + 2)), .int (xs (i + 3)), .int (xs (i + 4)), .int (xs (i + 5))]) (rest := []) ⟨hx, hb, hml, hown, hts⟩ hM1 (cwV 5 hts gL_X9_suit rfl rfl rfl (by decide +kernel) ⟨Nat.le_of_ble_eq_true rfl, Nat.le_of_ble_eq_true rfl⟩) h0 hE hK hw hS hA rfl hl.1 rfl (Nat.le_of_ble_eq_true rfl) dL_law_932 ⟨(by show _ ≤ 600000; omega), (by show _ ≤ 7302250; omega)⟩ (fun r x1 H locs hp1 hw hS => ?_)
  refine lv_aload_n hx hb dL_law_935 rfl (lv_at hl 2 rfl) ?_
  refine lw_arg C hS ei (k := 1) (z := 1) rfl (by omega) hl dL_law_936 dL_law_937 dL_law_938 rfl dL_law_939 dL_law_940 ?_
  refine lw_arg C hS ei (k := 2) (z := 2) rfl (by omega) hl dL_law_941 dL_law_942 dL_law_943 rfl dL_law_944 dL_law_945 ?_
  refine lw_arg C hS ei (k := 3) (z := 3) rfl (by omega) hl dL_law_946 dL_law_947 dL_law_948 rfl dL_law_949 dL_law_950 ?_
  refine lw_arg C hS ei (k := 4) (z := 4) rfl (by omega) hl dL_law_951 dL_law_952 dL_law_953 rfl dL_law_954 dL_law_955 ?_
  refine lw_arg C hS ei (k := 5) (z := 5) rfl (by omega) hl dL_law_956 dL_law_957 dL_law_958 rfl dL_law_959 dL_law_960 ?_
  refine y_calli (As := [.int (xs (i + 1)), .int (xs (i + 2)), .int (xs (i + 3)), .int (xs (i + 4)), .int (xs (i + 5))]) (rest := [.int r]) ⟨hx, hb, hml, hown, hts⟩ hM2 (cwV 5 hts gL_X10_suit rfl rfl rfl (by decide +kernel) ⟨Nat.le_of_ble_eq_true rfl, Nat.le_of_ble_eq_true rfl⟩) hKm hw hS hA rfl hl.1 rfl (Nat.le_of_ble_eq_true rfl) dL_law_961 ⟨(by show _ ≤ 600000; omega), (by show _ ≤ 7302250; omega)⟩ (fun r2 v1 H locs hp2 hw hS => ?_)
  obtain ⟨er, hr1⟩ := hf r x1 r2 v1 hp1 hp2
  refine lv_icmp_eq (tgt := 1157) hx hb dL_law_964 (by decide) (fun _ => ?_) (fun c9 => absurd er c9)
  exact W.widen (by omega) (by omega) (kk H locs ls ⟨ad, x1, R, v1, n, T, rfl, hR, hr1, hw, hS⟩ hl)
set_option maxHeartbeats 4000000 in
theorem lc_speak (C : lawC p s m c b L xs D y A qs q qv) {i : Nat} (hi : i + 6 ≤ L) {xi : Int32} (ei : xi = nI i) (hI : lawI s D y A h a h9 H locs) (hl : lv_has ls 4 [(0, .ref b), (1, .ref h9), (2, .ref h), (3, .int xi)]) (hc : cells + 2 ≤ 600000) (hs : slots + 53 ≤ 7302250)
    (kk : ∀ (H : Heap) (locs : List Loc) (ls : Array Slot), lawI s D y A h a h9 H locs → lv_has ls 4 [(0, .ref b), (1, .ref h9), (2, .ref h), (3, .int xi)] → W p l e room_1 s m #[Value.ref b] below meth c H locs (cells + 2) (slots + 53) Q (F0 m 1157 ls [])) : W p l e room_1 s m #[Value.ref b] below meth c H locs cells slots Q (F0 m 969 ls []) := by
  obtain ⟨ad, x, R, v, n, T, rfl, hR, hr, hw, hS⟩ := hI
  obtain ⟨hx, hb, hml, hown, hts, hX, hbl, hbA, hK, hE, hNN, hSE, hRR, hA, hL⟩ := id C
  have hKm : va_K D vwCl (mT y) s := hK.sub [0, 1, 2, 3] rfl
  have h0 : (0, 0) ∈ R := (hR 0 0).mpr Nat.zero_lt_one
  obtain ⟨P1, P2, hM1, hM2, hf⟩ := both_speak (l := l) (D := D) (y := y) (qs := qs) (h := h) (a := a) (ad := ad) hr hR (xs (i + 1)) (xs (i + 2)) (xs (i + 3))
  refine lv_aload_n hx hb dL_law_969 rfl (lv_at hl 1 rfl) ?_
  refine lw_arg C hS ei (k := 1) (z := 1) rfl (by omega) hl dL_law_970 dL_law_971 dL_law_972 rfl dL_law_973 dL_law_974 ?_
  refine lw_arg C hS ei (k := 2) (z := 2) rfl (by omega) hl dL_law_975 dL_law_976 dL_law_977 rfl dL_law_978 dL_law_979 ?_
  refine lw_arg C hS ei (k := 3) (z := 3) rfl (by omega) hl dL_law_980 dL_law_981 dL_law_982 rfl dL_law_983 dL_law_984 ?_
  refine x_calli (As := [.int (xs (i + 1)), .int (xs (i + 2)), .int (xs (i + 3))]) (rest := []) ⟨hx, hb, hml, hown, hts⟩ hM1 (cwV 3 hts gL_X9_speak rfl rfl rfl (by decide +kernel) ⟨Nat.le_of_ble_eq_true rfl, Nat.le_of_ble_eq_true rfl⟩) h0 hE hK hw hS hA rfl hl.1 rfl (Nat.le_of_ble_eq_true rfl) dL_law_985 ⟨(by show _ ≤ 600000; omega), (by show _ ≤ 7302250; omega)⟩ (fun r x1 H locs hp1 hw hS => ?_)
  refine lv_aload_n hx hb dL_law_988 rfl (lv_at hl 2 rfl) ?_
  refine lw_arg C hS ei (k := 1) (z := 1) rfl (by omega) hl dL_law_989 dL_law_990 dL_law_991 rfl dL_law_992 dL_law_993 ?_
  refine lw_arg C hS ei (k := 2) (z := 2) rfl (by omega) hl dL_law_994 dL_law_995 dL_law_996 rfl dL_law_997 dL_law_998 ?_
  refine lw_arg C hS ei (k := 3) (z := 3) rfl (by omega) hl dL_law_999 dL_law_1000 dL_law_1001 rfl dL_law_1002 dL_law_1003 ?_
  refine y_calli (As := [.int (xs (i + 1)), .int (xs (i + 2)), .int (xs (i + 3))]) (rest := [.int r]) ⟨hx, hb, hml, hown, hts⟩ hM2 (cwV 3 hts gL_X10_speak rfl rfl rfl (by decide +kernel) ⟨Nat.le_of_ble_eq_true rfl, Nat.le_of_ble_eq_true rfl⟩) hKm hw hS hA rfl hl.1 rfl (Nat.le_of_ble_eq_true rfl) dL_law_1004 ⟨(by show _ ≤ 600000; omega), (by show _ ≤ 7302250; omega)⟩ (fun r2 v1 H locs hp2 hw hS => ?_)
  obtain ⟨er, hr1⟩ := hf r x1 r2 v1 hp1 hp2
  refine lv_icmp_eq (tgt := 1157) hx hb dL_law_1007 (by decide) (fun _ => ?_) (fun c9 => absurd er c9)
  exact W.widen (by omega) (by omega) (kk H locs ls ⟨ad, x1, R, v1, n, T, rfl, hR, hr1, hw, hS⟩ hl)
set_option maxHeartbeats 4000000 in
theorem lc_witness (C : lawC p s m c b L xs D y A qs q qv) {i : Nat} (hi : i + 6 ≤ L) {xi : Int32} (ei : xi = nI i) (hI : lawI s D y A h a h9 H locs) (hl : lv_has ls 4 [(0, .ref b), (1, .ref h9), (2, .ref h), (3, .int xi)]) (hc : cells + 2 ≤ 600000) (hs : slots + 53 ≤ 7302250)
    (kk : ∀ (H : Heap) (locs : List Loc) (ls : Array Slot), lawI s D y A h a h9 H locs → lv_has ls 4 [(0, .ref b), (1, .ref h9), (2, .ref h), (3, .int xi)] → W p l e room_1 s m #[Value.ref b] below meth c H locs (cells + 2) (slots + 53) Q (F0 m 1157 ls [])) : W p l e room_1 s m #[Value.ref b] below meth c H locs cells slots Q (F0 m 1012 ls []) := by
  obtain ⟨ad, x, R, v, n, T, rfl, hR, hr, hw, hS⟩ := hI
  obtain ⟨hx, hb, hml, hown, hts, hX, hbl, hbA, hK, hE, hNN, hSE, hRR, hA, hL⟩ := id C
  have hKm : va_K D vwCl (mT y) s := hK.sub [0, 1, 2, 3] rfl
  have h0 : (0, 0) ∈ R := (hR 0 0).mpr Nat.zero_lt_one
  obtain ⟨P1, P2, hM1, hM2, hf⟩ := both_witness (l := l) (D := D) (y := y) (qs := qs) (h := h) (a := a) (ad := ad) hr hR (xs (i + 1))
  refine lv_aload_n hx hb dL_law_1012 rfl (lv_at hl 1 rfl) ?_
  refine lw_arg C hS ei (k := 1) (z := 1) rfl (by omega) hl dL_law_1013 dL_law_1014 dL_law_1015 rfl dL_law_1016 dL_law_1017 ?_
  refine x_calli (As := [.int (xs (i + 1))]) (rest := []) ⟨hx, hb, hml, hown, hts⟩ hM1 (cwV 1 hts gL_X9_witness rfl rfl rfl (by decide +kernel) ⟨Nat.le_of_ble_eq_true rfl, Nat.le_of_ble_eq_true rfl⟩) h0 hE hK hw hS hA rfl hl.1 rfl (Nat.le_of_ble_eq_true rfl) dL_law_1018 ⟨(by show _ ≤ 600000; omega), (by show _ ≤ 7302250; omega)⟩ (fun r x1 H locs hp1 hw hS => ?_)
  refine lv_aload_n hx hb dL_law_1021 rfl (lv_at hl 2 rfl) ?_
  refine lw_arg C hS ei (k := 1) (z := 1) rfl (by omega) hl dL_law_1022 dL_law_1023 dL_law_1024 rfl dL_law_1025 dL_law_1026 ?_
  refine y_calli (As := [.int (xs (i + 1))]) (rest := [.int r]) ⟨hx, hb, hml, hown, hts⟩ hM2 (cwV 1 hts gL_X10_witness rfl rfl rfl (by decide +kernel) ⟨Nat.le_of_ble_eq_true rfl, Nat.le_of_ble_eq_true rfl⟩) hKm hw hS hA rfl hl.1 rfl (Nat.le_of_ble_eq_true rfl) dL_law_1027 ⟨(by show _ ≤ 600000; omega), (by show _ ≤ 7302250; omega)⟩ (fun r2 v1 H locs hp2 hw hS => ?_)
  obtain ⟨er, hr1⟩ := hf r x1 r2 v1 hp1 hp2
  refine lv_icmp_eq (tgt := 1157) hx hb dL_law_1030 (by decide) (fun _ => ?_) (fun c9 => absurd er c9)
  exact W.widen (by omega) (by omega) (kk H locs ls ⟨ad, x1, R, v1, n, T, rfl, hR, hr1, hw, hS⟩ hl)
set_option maxHeartbeats 4000000 in
theorem lc_disc (C : lawC p s m c b L xs D y A qs q qv) {i : Nat} (hi : i + 6 ≤ L) {xi : Int32} (ei : xi = nI i) (hI : lawI s D y A h a h9 H locs) (hl : lv_has ls 4 [(0, .ref b), (1, .ref h9), (2, .ref h), (3, .int xi)]) (hc : cells + 2 ≤ 600000) (hs : slots + 53 ≤ 7302250)
    (kk : ∀ (H : Heap) (locs : List Loc) (ls : Array Slot), lawI s D y A h a h9 H locs → lv_has ls 4 [(0, .ref b), (1, .ref h9), (2, .ref h), (3, .int xi)] → W p l e room_1 s m #[Value.ref b] below meth c H locs (cells + 2) (slots + 53) Q (F0 m 1157 ls [])) : W p l e room_1 s m #[Value.ref b] below meth c H locs cells slots Q (F0 m 1035 ls []) := by
  obtain ⟨ad, x, R, v, n, T, rfl, hR, hr, hw, hS⟩ := hI
  obtain ⟨hx, hb, hml, hown, hts, hX, hbl, hbA, hK, hE, hNN, hSE, hRR, hA, hL⟩ := id C
  have hKm : va_K D vwCl (mT y) s := hK.sub [0, 1, 2, 3] rfl
  have h0 : (0, 0) ∈ R := (hR 0 0).mpr Nat.zero_lt_one
  obtain ⟨P1, P2, hM1, hM2, hf⟩ := both_disc (l := l) (D := D) (y := y) (qs := qs) (h := h) (a := a) (ad := ad) hr hR (xs (i + 1)) (xs (i + 2)) (xs (i + 3))
  refine lv_aload_n hx hb dL_law_1035 rfl (lv_at hl 1 rfl) ?_
  refine lw_arg C hS ei (k := 1) (z := 1) rfl (by omega) hl dL_law_1036 dL_law_1037 dL_law_1038 rfl dL_law_1039 dL_law_1040 ?_
  refine lw_arg C hS ei (k := 2) (z := 2) rfl (by omega) hl dL_law_1041 dL_law_1042 dL_law_1043 rfl dL_law_1044 dL_law_1045 ?_
  refine lw_arg C hS ei (k := 3) (z := 3) rfl (by omega) hl dL_law_1046 dL_law_1047 dL_law_1048 rfl dL_law_1049 dL_law_1050 ?_
  refine x_calli (As := [.int (xs (i + 1)), .int (xs (i + 2)), .int (xs (i + 3))]) (rest := []) ⟨hx, hb, hml, hown, hts⟩ hM1 (cwV 3 hts gL_X9_disc rfl rfl rfl (by decide +kernel) ⟨Nat.le_of_ble_eq_true rfl, Nat.le_of_ble_eq_true rfl⟩) h0 hE hK hw hS hA rfl hl.1 rfl (Nat.le_of_ble_eq_true rfl) dL_law_1051 ⟨(by show _ ≤ 600000; omega), (by show _ ≤ 7302250; omega)⟩ (fun r x1 H locs hp1 hw hS => ?_)
  refine lv_aload_n hx hb dL_law_1054 rfl (lv_at hl 2 rfl) ?_
  refine lw_arg C hS ei (k := 1) (z := 1) rfl (by omega) hl dL_law_1055 dL_law_1056 dL_law_1057 rfl dL_law_1058 dL_law_1059 ?_
  refine lw_arg C hS ei (k := 2) (z := 2) rfl (by omega) hl dL_law_1060 dL_law_1061 dL_law_1062 rfl dL_law_1063 dL_law_1064 ?_
  refine lw_arg C hS ei (k := 3) (z := 3) rfl (by omega) hl dL_law_1065 dL_law_1066 dL_law_1067 rfl dL_law_1068 dL_law_1069 ?_
  refine y_calli (As := [.int (xs (i + 1)), .int (xs (i + 2)), .int (xs (i + 3))]) (rest := [.int r]) ⟨hx, hb, hml, hown, hts⟩ hM2 (cwV 3 hts gL_X10_disc rfl rfl rfl (by decide +kernel) ⟨Nat.le_of_ble_eq_true rfl, Nat.le_of_ble_eq_true rfl⟩) hKm hw hS hA rfl hl.1 rfl (Nat.le_of_ble_eq_true rfl) dL_law_1070 ⟨(by show _ ≤ 600000; omega), (by show _ ≤ 7302250; omega)⟩ (fun r2 v1 H locs hp2 hw hS => ?_)
  obtain ⟨er, hr1⟩ := hf r x1 r2 v1 hp1 hp2
  refine lv_icmp_eq (tgt := 1157) hx hb dL_law_1073 (by decide) (fun _ => ?_) (fun c9 => absurd er c9)
  exact W.widen (by omega) (by omega) (kk H locs ls ⟨ad, x1, R, v1, n, T, rfl, hR, hr1, hw, hS⟩ hl)
set_option maxHeartbeats 4000000 in
theorem lc_close (C : lawC p s m c b L xs D y A qs q qv) {i : Nat} (hi : i + 6 ≤ L) {xi : Int32} (ei : xi = nI i) (hI : lawI s D y A h a h9 H locs) (hl : lv_has ls 4 [(0, .ref b), (1, .ref h9), (2, .ref h), (3, .int xi)]) (hc : cells + 2 ≤ 600000) (hs : slots + 53 ≤ 7302250)
    (kk : ∀ (H : Heap) (locs : List Loc) (ls : Array Slot), lawI s D y A h a h9 H locs → lv_has ls 4 [(0, .ref b), (1, .ref h9), (2, .ref h), (3, .int xi)] → W p l e room_1 s m #[Value.ref b] below meth c H locs (cells + 2) (slots + 53) Q (F0 m 1157 ls [])) : W p l e room_1 s m #[Value.ref b] below meth c H locs cells slots Q (F0 m 1078 ls []) := by
  obtain ⟨ad, x, R, v, n, T, rfl, hR, hr, hw, hS⟩ := hI
  obtain ⟨hx, hb, hml, hown, hts, hX, hbl, hbA, hK, hE, hNN, hSE, hRR, hA, hL⟩ := id C
  have hKm : va_K D vwCl (mT y) s := hK.sub [0, 1, 2, 3] rfl
  have h0 : (0, 0) ∈ R := (hR 0 0).mpr Nat.zero_lt_one
  obtain ⟨P1, P2, hM1, hM2, hf⟩ := both_close (l := l) (D := D) (y := y) (qs := qs) (h := h) (a := a) (ad := ad) hr hR (xs (i + 1))
  refine lv_aload_n hx hb dL_law_1078 rfl (lv_at hl 1 rfl) ?_
  refine lw_arg C hS ei (k := 1) (z := 1) rfl (by omega) hl dL_law_1079 dL_law_1080 dL_law_1081 rfl dL_law_1082 dL_law_1083 ?_
  refine x_calli (As := [.int (xs (i + 1))]) (rest := []) ⟨hx, hb, hml, hown, hts⟩ hM1 (cwV 1 hts gL_X9_close rfl rfl rfl (by decide +kernel) ⟨Nat.le_of_ble_eq_true rfl, Nat.le_of_ble_eq_true rfl⟩) h0 hE hK hw hS hA rfl hl.1 rfl (Nat.le_of_ble_eq_true rfl) dL_law_1084 ⟨(by show _ ≤ 600000; omega), (by show _ ≤ 7302250; omega)⟩ (fun r x1 H locs hp1 hw hS => ?_)
  refine lv_aload_n hx hb dL_law_1087 rfl (lv_at hl 2 rfl) ?_
  refine lw_arg C hS ei (k := 1) (z := 1) rfl (by omega) hl dL_law_1088 dL_law_1089 dL_law_1090 rfl dL_law_1091 dL_law_1092 ?_
  refine y_calli (As := [.int (xs (i + 1))]) (rest := [.int r]) ⟨hx, hb, hml, hown, hts⟩ hM2 (cwV 1 hts gL_X10_close rfl rfl rfl (by decide +kernel) ⟨Nat.le_of_ble_eq_true rfl, Nat.le_of_ble_eq_true rfl⟩) hKm hw hS hA rfl hl.1 rfl (Nat.le_of_ble_eq_true rfl) dL_law_1093 ⟨(by show _ ≤ 600000; omega), (by show _ ≤ 7302250; omega)⟩ (fun r2 v1 H locs hp2 hw hS => ?_)
  obtain ⟨er, hr1⟩ := hf r x1 r2 v1 hp1 hp2
  refine lv_icmp_eq (tgt := 1157) hx hb dL_law_1096 (by decide) (fun _ => ?_) (fun c9 => absurd er c9)
  exact W.widen (by omega) (by omega) (kk H locs ls ⟨ad, x1, R, v1, n, T, rfl, hR, hr1, hw, hS⟩ hl)
set_option maxHeartbeats 4000000 in
theorem lc_court (C : lawC p s m c b L xs D y A qs q qv) {i : Nat} (hi : i + 6 ≤ L) {xi : Int32} (ei : xi = nI i) (hI : lawI s D y A h a h9 H locs) (hl : lv_has ls 4 [(0, .ref b), (1, .ref h9), (2, .ref h), (3, .int xi)]) (hc : cells + 2 ≤ 600000) (hs : slots + 53 ≤ 7302250)
    (kk : ∀ (H : Heap) (locs : List Loc) (ls : Array Slot), lawI s D y A h a h9 H locs → lv_has ls 4 [(0, .ref b), (1, .ref h9), (2, .ref h), (3, .int xi)] → W p l e room_1 s m #[Value.ref b] below meth c H locs (cells + 2) (slots + 53) Q (F0 m 1157 ls [])) : W p l e room_1 s m #[Value.ref b] below meth c H locs cells slots Q (F0 m 1101 ls []) := by
  obtain ⟨ad, x, R, v, n, T, rfl, hR, hr, hw, hS⟩ := hI
  obtain ⟨hx, hb, hml, hown, hts, hX, hbl, hbA, hK, hE, hNN, hSE, hRR, hA, hL⟩ := id C
  have hKm : va_K D vwCl (mT y) s := hK.sub [0, 1, 2, 3] rfl
  have h0 : (0, 0) ∈ R := (hR 0 0).mpr Nat.zero_lt_one
  obtain ⟨P1, P2, hM1, hM2, hf⟩ := both_court (l := l) (D := D) (y := y) (qs := qs) (h := h) (a := a) (ad := ad) hr hR (xs (i + 1)) (xs (i + 2))
  refine lv_aload_n hx hb dL_law_1101 rfl (lv_at hl 1 rfl) ?_
  refine lw_arg C hS ei (k := 1) (z := 1) rfl (by omega) hl dL_law_1102 dL_law_1103 dL_law_1104 rfl dL_law_1105 dL_law_1106 ?_
  refine lw_arg C hS ei (k := 2) (z := 2) rfl (by omega) hl dL_law_1107 dL_law_1108 dL_law_1109 rfl dL_law_1110 dL_law_1111 ?_
  refine x_calli (As := [.int (xs (i + 1)), .int (xs (i + 2))]) (rest := []) ⟨hx, hb, hml, hown, hts⟩ hM1 (cwV 2 hts gL_X9_court rfl rfl rfl (by decide +kernel) ⟨Nat.le_of_ble_eq_true rfl, Nat.le_of_ble_eq_true rfl⟩) h0 hE hK hw hS hA rfl hl.1 rfl (Nat.le_of_ble_eq_true rfl) dL_law_1112 ⟨(by show _ ≤ 600000; omega), (by show _ ≤ 7302250; omega)⟩ (fun r x1 H locs hp1 hw hS => ?_)
  refine lv_aload_n hx hb dL_law_1115 rfl (lv_at hl 2 rfl) ?_
  refine lw_arg C hS ei (k := 1) (z := 1) rfl (by omega) hl dL_law_1116 dL_law_1117 dL_law_1118 rfl dL_law_1119 dL_law_1120 ?_
  refine lw_arg C hS ei (k := 2) (z := 2) rfl (by omega) hl dL_law_1121 dL_law_1122 dL_law_1123 rfl dL_law_1124 dL_law_1125 ?_
  refine y_calli (As := [.int (xs (i + 1)), .int (xs (i + 2))]) (rest := [.int r]) ⟨hx, hb, hml, hown, hts⟩ hM2 (cwV 2 hts gL_X10_court rfl rfl rfl (by decide +kernel) ⟨Nat.le_of_ble_eq_true rfl, Nat.le_of_ble_eq_true rfl⟩) hKm hw hS hA rfl hl.1 rfl (Nat.le_of_ble_eq_true rfl) dL_law_1126 ⟨(by show _ ≤ 600000; omega), (by show _ ≤ 7302250; omega)⟩ (fun r2 v1 H locs hp2 hw hS => ?_)
  obtain ⟨er, hr1⟩ := hf r x1 r2 v1 hp1 hp2
  refine lv_icmp_eq (tgt := 1157) hx hb dL_law_1129 (by decide) (fun _ => ?_) (fun c9 => absurd er c9)
  exact W.widen (by omega) (by omega) (kk H locs ls ⟨ad, x1, R, v1, n, T, rfl, hR, hr1, hw, hS⟩ hl)
set_option maxHeartbeats 4000000 in
theorem lc_count (C : lawC p s m c b L xs D y A qs q qv) {i : Nat} (hi : i + 6 ≤ L) {xi : Int32} (ei : xi = nI i) (hI : lawI s D y A h a h9 H locs) (hl : lv_has ls 4 [(0, .ref b), (1, .ref h9), (2, .ref h), (3, .int xi)]) (hc : cells + 2 ≤ 600000) (hs : slots + 53 ≤ 7302250)
    (kk : ∀ (H : Heap) (locs : List Loc) (ls : Array Slot), lawI s D y A h a h9 H locs → lv_has ls 4 [(0, .ref b), (1, .ref h9), (2, .ref h), (3, .int xi)] → W p l e room_1 s m #[Value.ref b] below meth c H locs (cells + 2) (slots + 53) Q (F0 m 1157 ls [])) : W p l e room_1 s m #[Value.ref b] below meth c H locs cells slots Q (F0 m 1134 ls []) := by
  obtain ⟨ad, x, R, v, n, T, rfl, hR, hr, hw, hS⟩ := hI
  obtain ⟨hx, hb, hml, hown, hts, hX, hbl, hbA, hK, hE, hNN, hSE, hRR, hA, hL⟩ := id C
  have hKm : va_K D vwCl (mT y) s := hK.sub [0, 1, 2, 3] rfl
  have h0 : (0, 0) ∈ R := (hR 0 0).mpr Nat.zero_lt_one
  obtain ⟨P1, P2, hM1, hM2, hf⟩ := both_count (l := l) (D := D) (y := y) (qs := qs) (h := h) (a := a) (ad := ad) hr hR (xs (i + 1))
  refine lv_aload_n hx hb dL_law_1134 rfl (lv_at hl 1 rfl) ?_
  refine lw_arg C hS ei (k := 1) (z := 1) rfl (by omega) hl dL_law_1135 dL_law_1136 dL_law_1137 rfl dL_law_1138 dL_law_1139 ?_
  refine x_calli (As := [.int (xs (i + 1))]) (rest := []) ⟨hx, hb, hml, hown, hts⟩ hM1 (cwV 1 hts gL_X9_count rfl rfl rfl (by decide +kernel) ⟨Nat.le_of_ble_eq_true rfl, Nat.le_of_ble_eq_true rfl⟩) h0 hE hK hw hS hA rfl hl.1 rfl (Nat.le_of_ble_eq_true rfl) dL_law_1140 ⟨(by show _ ≤ 600000; omega), (by show _ ≤ 7302250; omega)⟩ (fun r x1 H locs hp1 hw hS => ?_)
  refine lv_aload_n hx hb dL_law_1143 rfl (lv_at hl 2 rfl) ?_
  refine lw_arg C hS ei (k := 1) (z := 1) rfl (by omega) hl dL_law_1144 dL_law_1145 dL_law_1146 rfl dL_law_1147 dL_law_1148 ?_
  refine y_calli (As := [.int (xs (i + 1))]) (rest := [.int r]) ⟨hx, hb, hml, hown, hts⟩ hM2 (cwV 1 hts gL_X10_count rfl rfl rfl (by decide +kernel) ⟨Nat.le_of_ble_eq_true rfl, Nat.le_of_ble_eq_true rfl⟩) hKm hw hS hA rfl hl.1 rfl (Nat.le_of_ble_eq_true rfl) dL_law_1149 ⟨(by show _ ≤ 600000; omega), (by show _ ≤ 7302250; omega)⟩ (fun r2 v1 H locs hp2 hw hS => ?_)
  obtain ⟨er, hr1⟩ := hf r x1 r2 v1 hp1 hp2
  refine lv_icmp_eq (tgt := 1157) hx hb dL_law_1152 (by decide) (fun _ => ?_) (fun c9 => absurd er c9)
  exact W.widen (by omega) (by omega) (kk H locs ls ⟨ad, x1, R, v1, n, T, rfl, hR, hr1, hw, hS⟩ hl)
end LG
