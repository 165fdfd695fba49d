/-! the law: both worlds side by side, and its calls -/
/-- the landed program's cells and the reference's, apart -/
def wX (D : va_G) (y : Nat → ClassId) (A : Nat → Prop) (h : Nat) (a : Nat → Nat) (ad : Nat → Nat → Nat) (x : cS) (R : List (Nat × Nat)) (v : mS) (H : Heap) : Prop := va_P D vwCl (cW ad y x R) H ∧ va_D A (cW ad y x R) ∧ va_P D vwCl (mW h a y v) H ∧ va_D A (mW h a y v) ∧ ∀ q, q ∈ cAd ad R → ¬ q ∈ mAd h a
section LW
variable {p : Program} {l : Launch} {e : Env} {Rm : Room} {s : State} {m : MethodId} {args : Array Value} {below : List Frame} {meth : Method} {c : Code} {H H1 : Heap} {locs : List Loc} {cells slots : Nat} {Q : State → Prop}
variable {cc : ByteArray} {pc : Nat} {ls : Array Slot} {rest st : List Value} {D : va_G} {A : Nat → Prop} {y : Nat → ClassId} {qs : Nat → Nat × Nat} {Ts ws : List Cond} {own : String} {index n mc ms : Nat}
variable {ym : MethodName} {bytes : ByteArray} {maxL nL : Nat} {ret : Option FieldType} {rm : Room} {As : List Value} {h : Nat} {a : Nat → Nat} {ad ad' : Nat → Nat → Nat} {x x' : cS} {R R' : List (Nat × Nat)} {v v' : mS}
theorem mW_lt (hP : va_P D vwCl (mW h a y v) H) {q : Nat} (hq : q ∈ mAd h a) : q < H.size := by
  obtain ⟨k, e, hk⟩ := mW_of (y := y) v hq
  exact (hP k _ hk).lt
theorem cW_lt (hP : va_P D vwCl (cW ad y x R) H) {q : Nat} (hq : q ∈ cAd ad R) : q < H.size := by
  obtain ⟨k, e, hk⟩ := cW_of y x hq
  exact (hP k _ hk).lt
theorem wX_x (hw : wX D y A h a ad x R v H) (hP1 : va_P D vwCl (cW ad' y x' R') H1) (hD1 : va_D (cA ad R H.size) (cW ad' y x' R')) (hk : ∀ q : Nat, q < H.size → ¬ cA ad R H.size q → H1[q]? = H[q]?) (hsub : ∀ q, cA ad R H.size q → A q) : wX D y A h a ad' x' R' v H1 := by
  obtain ⟨hP, hD, hPm, hDm, hN⟩ := hw
  have hno : ∀ q, q ∈ mAd h a → ¬ cA ad R H.size q := fun q hq hc => by
    rcases hc with hc | hc
    · exact hN q hc hq
    · have := mW_lt hPm hq
      omega
  refine ⟨hP1, hD1.weaken (fun k q _ hq => hsub q.1 hq), hPm.kept (fun k q hq => hk q.1 (hPm k q hq).lt (hno q.1 (mW_in hq))), hDm, fun q hq hm => ?_⟩
  obtain ⟨k, e, hq2⟩ := cW_of y x' hq
  exact hno q hm (hD1.2 k _ hq2)
theorem wX_m (hw : wX D y A h a ad x R v H) (hP1 : va_P D vwCl (mW h a y v') H1) (hD1 : va_D (mA h a H.size) (mW h a y v')) (hk : ∀ q : Nat, q < H.size → ¬ mA h a H.size q → H1[q]? = H[q]?) (hsub : ∀ q, mA h a H.size q → A q) : wX D y A h a ad x R v' H1 := by
  obtain ⟨hP, hD, hPm, hDm, hN⟩ := hw
  have hno : ∀ q, q ∈ cAd ad R → ¬ mA h a H.size q := fun q hq hc => by
    rcases hc with hc | hc
    · exact hN q hq hc
    · have := cW_lt hP hq
      omega
  exact ⟨hP.kept (fun k q hq => hk q.1 (hP k q hq).lt (hno q.1 (cW_in hq))), hD, hP1, hD1.weaken (fun k q _ hq => hsub q.1 hq), hN⟩
theorem x_calli {post : Int32 → cS → Prop} (S : CallFix p m c cc nL s args Ts own) (hM : cMi l ym ws rm D y ad x R qs (.ref (ad 0 0) :: As) post) (cw : CallW Rm s args own RX9 index ym bytes maxL ret ws rm 0 0 n) (h0 : (0, 0) ∈ R) (hE : cEnv qs A s s.heap) (hK : va_K D vwCl (cT y) s) (hw : wX D y A h a ad x R v H) (hS : va_S A s.heap H locs) (hA : ∀ q, s.heap.size ≤ q → A q) (hn : As.length = n) (hsz : ls.size = nL) (hst : st = As.reverse ++ .ref (ad 0 0) :: rest) (hW : (rest.map fun v => v.category).sum ≤ 8) (hdg : decode cc pc = .ok (.invokevirtual index, 3)) (hf : cells ≤ Rm.cells ∧ slots ≤ Rm.slots)
    (kk : ∀ (r : Int32) (x' : cS) (H1 : Heap) (locs1 : List Loc), post r x' → wX D y A h a ad x' R v H1 → va_S A s.heap H1 locs1 → W p l e Rm s m args below meth c H1 locs1 cells slots Q (F0 m (pc + 3) ls (.int r :: rest))) : W p l e Rm s m args below meth c H locs cells slots Q (F0 m pc ls st) := by
  refine va_calli (va_runV (As := As) (rest := rest) S (hM H.size) cw (c_preV (q := (RX9, TX9, 11)) (ci := 9) hE hK hw.1 hw.2.1 hS hA h0 (fun _ _ _ => ⟨_, rfl⟩) rfl) rfl hn hsz hst (lv_room hW) hdg hf) hS (fun q _ hq => cA_sub hw.2.1 hS hA q hq) (cA_sub hw.2.1 hS hA) (fun r u t H1 locs1 ht hvm hp hB hz hk hS1 => ?_)
  obtain ⟨hP1, hK1, hD1⟩ := hB
  rw [ht] at hP1
  exact kk r u H1 locs1 hp (wX_x hw hP1 hD1 hk (cA_sub hw.2.1 hS hA)) hS1
theorem x_calll {post : Int64 → cS → Prop} (S : CallFix p m c cc nL s args Ts own) (hM : cMl l ym ws rm D y ad x R qs (.ref (ad 0 0) :: As) post) (cw : CallW Rm s args own RX9 index ym bytes maxL ret ws rm 0 0 n) (h0 : (0, 0) ∈ R) (hE : cEnv qs A s s.heap) (hK : va_K D vwCl (cT y) s) (hw : wX D y A h a ad x R v H) (hS : va_S A s.heap H locs) (hA : ∀ q, s.heap.size ≤ q → A q) (hn : As.length = n) (hsz : ls.size = nL) (hst : st = As.reverse ++ .ref (ad 0 0) :: rest) (hW : (rest.map fun v => v.category).sum ≤ 8) (hdg : decode cc pc = .ok (.invokevirtual index, 3)) (hf : cells ≤ Rm.cells ∧ slots ≤ Rm.slots)
    (kk : ∀ (r : Int64) (x' : cS) (H1 : Heap) (locs1 : List Loc), post r x' → wX D y A h a ad x' R v H1 → va_S A s.heap H1 locs1 → W p l e Rm s m args below meth c H1 locs1 cells slots Q (F0 m (pc + 3) ls (.long r :: rest))) : W p l e Rm s m args below meth c H locs cells slots Q (F0 m pc ls st) := by
  refine va_calll (va_runV (As := As) (rest := rest) S (hM H.size) cw (c_preV (q := (RX9, TX9, 11)) (ci := 9) hE hK hw.1 hw.2.1 hS hA h0 (fun _ _ _ => ⟨_, rfl⟩) rfl) rfl hn hsz hst (lv_room hW) hdg hf) hS (fun q _ hq => cA_sub hw.2.1 hS hA q hq) (cA_sub hw.2.1 hS hA) (fun r u t H1 locs1 ht hvm hp hB hz hk hS1 => ?_)
  obtain ⟨hP1, hK1, hD1⟩ := hB
  rw [ht] at hP1
  exact kk r u H1 locs1 hp (wX_x hw hP1 hD1 hk (cA_sub hw.2.1 hS hA)) hS1
theorem x_calla {post : Int32 → cS × (Nat → Nat → Nat) × List (Nat × Nat) → Prop} (S : CallFix p m c cc nL s args Ts own) (hM : aMi l ym ws rm mc ms D y ad x R qs (.ref (ad 0 0) :: As) post) (cw : CallW Rm s args own RX9 index ym bytes maxL ret ws rm mc ms n) (h0 : (0, 0) ∈ R) (hE : cEnv qs A s s.heap) (hNN : cNN s) (hK : va_K D vwCl (cT y) s) (hw : wX D y A h a ad x R v H) (hS : va_S A s.heap H locs) (hA : ∀ q, s.heap.size ≤ q → A q) (hn : As.length = n) (hsz : ls.size = nL) (hst : st = As.reverse ++ .ref (ad 0 0) :: rest) (hW : (rest.map fun v => v.category).sum ≤ 8) (hdg : decode cc pc = .ok (.invokevirtual index, 3)) (hf : cells + mc ≤ Rm.cells ∧ slots + ms ≤ Rm.slots)
    (kk : ∀ (r : Int32) (u : cS × (Nat → Nat → Nat) × List (Nat × Nat)) (H1 : Heap) (locs1 : List Loc), post r u → wX D y A h a u.2.1 u.1 u.2.2 v H1 → va_S A s.heap H1 locs1 → W p l e Rm s m args below meth c H1 locs1 (cells + mc) (slots + ms) Q (F0 m (pc + 3) ls (.int r :: rest))) : W p l e Rm s m args below meth c H locs cells slots Q (F0 m pc ls st) := by
  obtain ⟨z1, z2, z3⟩ := c_preV (As := As) (q := (RX9, TX9, 11)) (ci := 9) hE hK hw.1 hw.2.1 hS hA h0 (fun _ _ _ => ⟨_, rfl⟩) rfl
  refine va_calli (va_runV (As := As) (rest := rest) S (hM H.size) cw ⟨fun a U g mk qq => ⟨z1 a U g mk qq.1, qq.2.call⟩, z2, fun U hU hW => ⟨z3 U hU hW, hNN.warm hW⟩⟩ rfl hn hsz hst (lv_room hW) hdg hf) hS (fun q _ hq => cA_sub hw.2.1 hS hA q hq) (cA_sub hw.2.1 hS hA) (fun r u t H1 locs1 ht hvm hp hB hz hk hS1 => ?_)
  obtain ⟨hP1, hK1, hD1⟩ := hB
  rw [ht] at hP1
  exact kk r u H1 locs1 hp (wX_x hw hP1 hD1 hk (cA_sub hw.2.1 hS hA)) hS1
theorem y_calli {post : Int32 → mS → Prop} (S : CallFix p m c cc nL s args Ts own) (hM : mMi l ym ws rm D y h a v (.ref h :: As) post) (cw : CallW Rm s args own RX10 index ym bytes maxL ret ws rm 0 0 n) (hK : va_K D vwCl (mT y) s) (hw : wX D y A h a ad x R v H) (hS : va_S A s.heap H locs) (hA : ∀ q, s.heap.size ≤ q → A q) (hn : As.length = n) (hsz : ls.size = nL) (hst : st = As.reverse ++ .ref h :: rest) (hW : (rest.map fun v => v.category).sum ≤ 8) (hdg : decode cc pc = .ok (.invokevirtual index, 3)) (hf : cells ≤ Rm.cells ∧ slots ≤ Rm.slots)
    (kk : ∀ (r : Int32) (v' : mS) (H1 : Heap) (locs1 : List Loc), post r v' → wX D y A h a ad x R v' H1 → va_S A s.heap H1 locs1 → W p l e Rm s m args below meth c H1 locs1 cells slots Q (F0 m (pc + 3) ls (.int r :: rest))) : W p l e Rm s m args below meth c H locs cells slots Q (F0 m pc ls st) := by
  refine va_calli (va_runV (As := As) (rest := rest) S (hM H.size) cw ⟨fun a U g mk q => by obtain ⟨q0, q1, qP, qK, qD⟩ := q; exact ⟨q0, q1, qP, va_K.moved (u := U) (U := U.calling g mk a) (Vm.Alike.refl U.vm) qK, qD⟩, va_recv hK hw.2.2.1 (ci := 10) (q0 := 0) rfl rfl, fun U hU hW => ⟨rfl, by rw [hU], by rw [hU]; exact hw.2.2.1, va_K.moved hW.alike hK, hw.2.2.2.1.weaken (fun _ _ _ _ => trivial)⟩⟩ rfl hn hsz hst (lv_room hW) hdg hf) hS (fun q _ hq => mA_sub hw.2.2.2.1 hS hA q hq) (mA_sub hw.2.2.2.1 hS hA) (fun r u t H1 locs1 ht hvm hp hB hz hk hS1 => ?_)
  obtain ⟨hP1, hK1, hD1⟩ := hB
  rw [ht] at hP1
  exact kk r u H1 locs1 hp (wX_m hw hP1 hD1 hk (mA_sub hw.2.2.2.1 hS hA)) hS1
theorem y_calll {post : Int64 → mS → Prop} (S : CallFix p m c cc nL s args Ts own) (hM : mMl l ym ws rm D y h a v (.ref h :: As) post) (cw : CallW Rm s args own RX10 index ym bytes maxL ret ws rm 0 0 n) (hK : va_K D vwCl (mT y) s) (hw : wX D y A h a ad x R v H) (hS : va_S A s.heap H locs) (hA : ∀ q, s.heap.size ≤ q → A q) (hn : As.length = n) (hsz : ls.size = nL) (hst : st = As.reverse ++ .ref h :: rest) (hW : (rest.map fun v => v.category).sum ≤ 8) (hdg : decode cc pc = .ok (.invokevirtual index, 3)) (hf : cells ≤ Rm.cells ∧ slots ≤ Rm.slots)
    (kk : ∀ (r : Int64) (v' : mS) (H1 : Heap) (locs1 : List Loc), post r v' → wX D y A h a ad x R v' H1 → va_S A s.heap H1 locs1 → W p l e Rm s m args below meth c H1 locs1 cells slots Q (F0 m (pc + 3) ls (.long r :: rest))) : W p l e Rm s m args below meth c H locs cells slots Q (F0 m pc ls st) := by
  refine va_calll (va_runV (As := As) (rest := rest) S (hM H.size) cw ⟨fun a U g mk q => by obtain ⟨q0, q1, qP, qK, qD⟩ := q; exact ⟨q0, q1, qP, va_K.moved (u := U) (U := U.calling g mk a) (Vm.Alike.refl U.vm) qK, qD⟩, va_recv hK hw.2.2.1 (ci := 10) (q0 := 0) rfl rfl, fun U hU hW => ⟨rfl, by rw [hU], by rw [hU]; exact hw.2.2.1, va_K.moved hW.alike hK, hw.2.2.2.1.weaken (fun _ _ _ _ => trivial)⟩⟩ rfl hn hsz hst (lv_room hW) hdg hf) hS (fun q _ hq => mA_sub hw.2.2.2.1 hS hA q hq) (mA_sub hw.2.2.2.1 hS hA) (fun r u t H1 locs1 ht hvm hp hB hz hk hS1 => ?_)
  obtain ⟨hP1, hK1, hD1⟩ := hB
  rw [ht] at hP1
  exact kk r u H1 locs1 hp (wX_m hw hP1 hD1 hk (mA_sub hw.2.2.2.1 hS hA)) hS1
theorem z_calli {q qv : Nat} {post : Int32 → mS → Prop} (S : CallFix p m c cc nL s args Ts own) (hM : nMi l ym ws rm D y h a q qv v (.ref h :: As) post) (cw : CallW Rm s args own RX10 index ym bytes maxL ret ws rm 0 0 n) (hE : sE wTx q qv A s s.heap) (hR : vk_R RX10 128 "age pay fifth tie suit acquit convict water over fine " q s) (hK : va_K D vwCl (mT y) s) (hw : wX D y A h a ad x R v H) (hS : va_S A s.heap H locs) (hA : ∀ q, s.heap.size ≤ q → A q) (hn : As.length = n) (hsz : ls.size = nL) (hst : st = As.reverse ++ .ref h :: rest) (hW : (rest.map fun v => v.category).sum ≤ 8) (hdg : decode cc pc = .ok (.invokevirtual index, 3)) (hf : cells ≤ Rm.cells ∧ slots ≤ Rm.slots)
    (kk : ∀ (r : Int32) (v' : mS) (H1 : Heap) (locs1 : List Loc), post r v' → wX D y A h a ad x R v' H1 → va_S A s.heap H1 locs1 → W p l e Rm s m args below meth c H1 locs1 cells slots Q (F0 m (pc + 3) ls (.int r :: rest))) : W p l e Rm s m args below meth c H locs cells slots Q (F0 m pc ls st) := by
  refine va_calli (va_runV (As := As) (rest := rest) S (hM H.size) cw ⟨fun a U g mk qq => by obtain ⟨q0, q1, qP, qK, qD, qE⟩ := qq; exact ⟨q0, q1, qP, va_K.moved (u := U) (U := U.calling g mk a) (Vm.Alike.refl U.vm) qK, qD, mEnv_b qE⟩, va_recv hK hw.2.2.1 (ci := 10) (q0 := 0) rfl rfl, fun U hU hW => ⟨rfl, by rw [hU], by rw [hU]; exact hw.2.2.1, va_K.moved hW.alike hK, hw.2.2.2.1.weaken (fun _ _ _ _ => trivial), mEnv_at hE hR hw.2.2.2.1 hS hA hU hW⟩⟩ rfl hn hsz hst (lv_room hW) hdg hf) hS (fun q _ hq => mA_sub hw.2.2.2.1 hS hA q hq) (mA_sub hw.2.2.2.1 hS hA) (fun r u t H1 locs1 ht hvm hp hB hz hk hS1 => ?_)
  obtain ⟨hP1, hK1, hD1⟩ := hB
  rw [ht] at hP1
  exact kk r u H1 locs1 hp (wX_m hw hP1 hD1 hk (mA_sub hw.2.2.2.1 hS hA)) hS1
end LW
