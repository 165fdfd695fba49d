/-! the reference with its String constant: contracts whose start holds the words, too -/
/-- the words, as bytes -/
def wTx : List Int32 := [97, 103, 101, 32, 112, 97, 121, 32, 102, 105, 102, 116, 104, 32, 116, 105, 101, 32, 115, 117, 105, 116, 32, 97, 99, 113, 117, 105, 116, 32, 99, 111, 110, 118, 105, 99, 116, 32, 119, 97, 116, 101, 114, 32, 111, 118, 101, 114, 32, 102, 105, 110, 101, 32]
theorem wTx_len : wTx.length = 54 := by decide
def mEnv (h : Nat) (a : Nat → Nat) (q qv sz : Nat) (U : State) : Prop := sE wTx q qv (mA h a sz) U U.heap ∧ vk_R RX10 128 "age pay fifth tie suit acquit convict water over fine " q U
def nPre (D : va_G) (y : Nat → ClassId) (h : Nat) (a : Nat → Nat) (q qv sz : Nat) (v : mS) (as : List Value) : Array Value → State → Prop := va_Pc as (fun U => U.heap.size = sz ∧ va_P D vwCl (mW h a y v) U.heap ∧ va_K D vwCl (mT y) U ∧ va_D (fun _ => True) (mW h a y v) ∧ mEnv h a q qv sz U)
def nMi (l : Launch) (ym : MethodName) (ws : List Cond) (rm : Room) (D : va_G) (y : Nat → ClassId) (h : Nat) (a : Nat → Nat) (q qv : Nat) (v : mS) (as : List Value) (post : Int32 → mS → Prop) : Prop := ∀ sz, Met l ym ws rm (nPre D y h a q qv sz v as) (va_Qi post (mEnd D y h a sz) (mA h a sz)) 0 0 (mA h a sz)
def nMv (l : Launch) (ym : MethodName) (ws : List Cond) (rm : Room) (D : va_G) (y : Nat → ClassId) (h : Nat) (a : Nat → Nat) (q qv : Nat) (v : mS) (as : List Value) (post : mS → Prop) : Prop := ∀ sz, Met l ym ws rm (nPre D y h a q qv sz v as) (va_Qv post (mEnd D y h a sz) (mA h a sz)) 0 0 (mA h a sz)
theorem nMi_of {l : Launch} {ym : MethodName} {ws ws' : List Cond} {rm : Room} {D : va_G} {y : Nat → ClassId} {h : Nat} {a : Nat → Nat} {q qv : Nat} {v : mS} {as : List Value} {post : Int32 → mS → Prop} {cc : ByteArray} {maxL : Nat} {ret : Option FieldType} (hy : ym.cls = RX10) (hw : ws = Cond.code ym cc maxL ret :: ws') (hf : (lg_sl as).length ≤ maxL)
    (body : ∀ (p : Program) (e : Env) (s : State) (m : MethodId) (below : List Frame) (meth : Method) (c : Code) (A : Nat → Prop) (ls : Array Slot), mAt p s m meth c as.toArray cc maxL ret ws D y h a A v → sE wTx q qv A s s.heap → vk_R RX10 128 "age pay fifth tie suit acquit convict water over fine " q s → A = mA h a s.heap.size → lv_has ls maxL (lv_args 0 as) → W p l e (headSpec ws rm).room s m as.toArray below meth c s.heap [] 0 0 (MQ below (va_Qi post (mEnd D y h a s.heap.size) A) as.toArray s 0 0 A) (F0 m 0 ls [])) : nMi l ym ws rm D y h a q qv v as post := by
  intro sz
  refine Met.ofW (cc := cc) (maxL := maxL) (ret := ret) (by rw [hy]; decide) hw ?_
  intro p e s m args below meth c s₁ B hml hv
  obtain ⟨rfl, hsz, hP, hK, hD0, hE, hR⟩ := hv
  subst hsz
  have hown : s.vm.findClass ym.cls = some m.cls := findClass_of_methodNamed B.named
  rw [hy] at hown
  rw [lg_entry_eq]
  exact body p e s m below meth c (mA h a s.heap.size) _ ⟨B.exec, B.bytes, B.returns, hml, atoms_spec (ws := ws) B.pre, hown, B.notSynchronized, hK, hP, mD_self hD0, fun q hq => Or.inr hq⟩ hE hR rfl (lv_entry as hf)
theorem nMv_of {l : Launch} {ym : MethodName} {ws ws' : List Cond} {rm : Room} {D : va_G} {y : Nat → ClassId} {h : Nat} {a : Nat → Nat} {q qv : Nat} {v : mS} {as : List Value} {post : mS → Prop} {cc : ByteArray} {maxL : Nat} {ret : Option FieldType} (hy : ym.cls = RX10) (hw : ws = Cond.code ym cc maxL ret :: ws') (hf : (lg_sl as).length ≤ maxL)
    (body : ∀ (p : Program) (e : Env) (s : State) (m : MethodId) (below : List Frame) (meth : Method) (c : Code) (A : Nat → Prop) (ls : Array Slot), mAt p s m meth c as.toArray cc maxL ret ws D y h a A v → sE wTx q qv A s s.heap → vk_R RX10 128 "age pay fifth tie suit acquit convict water over fine " q s → A = mA h a s.heap.size → lv_has ls maxL (lv_args 0 as) → W p l e (headSpec ws rm).room s m as.toArray below meth c s.heap [] 0 0 (MQ below (va_Qv post (mEnd D y h a s.heap.size) A) as.toArray s 0 0 A) (F0 m 0 ls [])) : nMv l ym ws rm D y h a q qv v as post := by
  intro sz
  refine Met.ofW (cc := cc) (maxL := maxL) (ret := ret) (by rw [hy]; decide) hw ?_
  intro p e s m args below meth c s₁ B hml hv
  obtain ⟨rfl, hsz, hP, hK, hD0, hE, hR⟩ := hv
  subst hsz
  have hown : s.vm.findClass ym.cls = some m.cls := findClass_of_methodNamed B.named
  rw [hy] at hown
  rw [lg_entry_eq]
  exact body p e s m below meth c (mA h a s.heap.size) _ ⟨B.exec, B.bytes, B.returns, hml, atoms_spec (ws := ws) B.pre, hown, B.notSynchronized, hK, hP, mD_self hD0, fun q hq => Or.inr hq⟩ hE hR rfl (lv_entry as hf)
section NC
variable {p : Program} {l : Launch} {e : Env} {R : Room} {s : State} {m : MethodId} {args : Array Value} {below : List Frame} {meth : Method} {c : Code} {H : Heap} {locs : List Loc} {cells slots : Nat} {Q : State → Prop}
variable {cc : ByteArray} {pc : Nat} {ls : Array Slot} {rest st : List Value} {D : va_G} {A : Nat → Prop} {h : Nat} {a : Nat → Nat} {y : Nat → ClassId} {v : mS} {Ts ws : List Cond} {q qv : Nat}
variable {ym : MethodName} {bytes : ByteArray} {maxL nL n index : Nat} {ret : Option FieldType} {rm : Room} {As : List Value}
theorem mEnv_at {U : State} (hE : sE wTx q qv A s s.heap) (hR : vk_R RX10 128 "age pay fifth tie suit acquit convict water over fine " q s) (hD : va_D A (mW h a y v)) (hS : va_S A s.heap H locs) (hA : ∀ q, s.heap.size ≤ q → A q) (hU : U.heap = H) (hW : s.WarmedH U.vm) : mEnv h a q qv H.size U :=
  ⟨by rw [hU]; exact ((hE.kept hS.2.1).narrow (mA_sub hD hS hA)).moved hW.alike, vk_R.warm hW hR⟩
theorem mEnv_b {U : State} {sz : Nat} {g : JFrame} {mk : MethodId} {a9 : Array Value} (h9 : mEnv h a q qv sz U) : mEnv h a q qv sz (U.calling g mk a9) := ⟨sE.moved (u := U) (U := U.calling g mk a9) (Vm.Alike.refl U.vm) h9.1, vk_R.same (u := U) rfl h9.2⟩
theorem n_calli {post : Int32 → mS → Prop} (S : CallFix p m c cc nL s args Ts RX10) (hM : nMi l ym ws rm D y h a q qv v (.ref h :: As) post) (cw : CallW R s args RX10 RX10 index ym bytes maxL ret ws rm 0 0 n) (hE : sE wTx q qv A s s.heap) (hR : vk_R RX10 128 "age pay fifth tie suit acquit convict water over fine " q s) (hK : va_K D vwCl (mT y) s) (hP : va_P D vwCl (mW h a y v) H) (hD : va_D A (mW h a y v)) (hS : va_S A s.heap H locs) (hA : ∀ q, s.heap.size ≤ q → A q) (hn : As.length = n) (hsz : ls.size = nL) (hst : st = As.reverse ++ .ref h :: rest) (hW : (rest.map fun v => v.category).sum ≤ 8) (hdg : decode cc pc = .ok (.invokevirtual index, 3)) (hf : cells ≤ R.cells ∧ slots ≤ R.slots)
    (kk : ∀ (r : Int32) (v' : mS) (H1 : Heap) (locs1 : List Loc), post r v' → va_P D vwCl (mW h a y v') H1 → va_D A (mW h a y v') → va_S A s.heap H1 locs1 → W p l e R s m args below meth c H1 locs1 cells slots Q (F0 m (pc + 3) ls (.int r :: rest))) : W p l e R s m args below meth c H locs cells slots Q (F0 m pc ls st) := by
  refine va_calli (va_runV (As := As) (rest := rest) S (hM H.size) cw ⟨fun a U g mk qq => by obtain ⟨q0, q1, qP, qK, qD, qE⟩ := qq; exact ⟨q0, q1, qP, va_K.moved (u := U) (U := U.calling g mk a) (Vm.Alike.refl U.vm) qK, qD, mEnv_b qE⟩, va_recv hK hP (ci := 10) (q0 := 0) rfl rfl, fun U hU hW => ⟨rfl, by rw [hU], by rw [hU]; exact hP, va_K.moved hW.alike hK, hD.weaken (fun _ _ _ _ => trivial), mEnv_at hE hR hD hS hA hU hW⟩⟩ rfl hn hsz hst (lv_room hW) hdg hf) hS (fun q _ hq => mA_sub hD hS hA q hq) (mA_sub hD hS hA) (fun r u t H1 locs1 ht hvm hw hB hz hk hS1 => ?_)
  obtain ⟨hP1, hK1, hD1⟩ := hB
  rw [ht] at hP1
  exact kk r u H1 locs1 hw hP1 (hD1.weaken (fun k q _ hq => mA_sub hD hS hA q.1 hq)) hS1
theorem n_callv {post : mS → Prop} (S : CallFix p m c cc nL s args Ts RX10) (hM : nMv l ym ws rm D y h a q qv v (.ref h :: As) post) (cw : CallW R s args RX10 RX10 index ym bytes maxL ret ws rm 0 0 n) (hE : sE wTx q qv A s s.heap) (hR : vk_R RX10 128 "age pay fifth tie suit acquit convict water over fine " q s) (hK : va_K D vwCl (mT y) s) (hP : va_P D vwCl (mW h a y v) H) (hD : va_D A (mW h a y v)) (hS : va_S A s.heap H locs) (hA : ∀ q, s.heap.size ≤ q → A q) (hn : As.length = n) (hsz : ls.size = nL) (hst : st = As.reverse ++ .ref h :: rest) (hW : (rest.map fun v => v.category).sum ≤ 8) (hdg : decode cc pc = .ok (.invokevirtual index, 3)) (hf : cells ≤ R.cells ∧ slots ≤ R.slots)
    (kk : ∀ (v' : mS) (H1 : Heap) (locs1 : List Loc), post v' → va_P D vwCl (mW h a y v') H1 → va_D A (mW h a y v') → va_S A s.heap H1 locs1 → W p l e R s m args below meth c H1 locs1 cells slots Q (F0 m (pc + 3) ls (rest))) : W p l e R s m args below meth c H locs cells slots Q (F0 m pc ls st) := by
  refine va_callv (va_runV (As := As) (rest := rest) S (hM H.size) cw ⟨fun a U g mk qq => by obtain ⟨q0, q1, qP, qK, qD, qE⟩ := qq; exact ⟨q0, q1, qP, va_K.moved (u := U) (U := U.calling g mk a) (Vm.Alike.refl U.vm) qK, qD, mEnv_b qE⟩, va_recv hK hP (ci := 10) (q0 := 0) rfl rfl, fun U hU hW => ⟨rfl, by rw [hU], by rw [hU]; exact hP, va_K.moved hW.alike hK, hD.weaken (fun _ _ _ _ => trivial), mEnv_at hE hR hD hS hA hU hW⟩⟩ rfl hn hsz hst (lv_room hW) hdg hf) hS (fun q _ hq => mA_sub hD hS hA q hq) (mA_sub hD hS hA) (fun u t H1 locs1 ht hvm hw hB hz hk hS1 => ?_)
  obtain ⟨hP1, hK1, hD1⟩ := hB
  rw [ht] at hP1
  exact kk u H1 locs1 hw hP1 (hD1.weaken (fun k q _ hq => mA_sub hD hS hA q.1 hq)) hS1
end NC
