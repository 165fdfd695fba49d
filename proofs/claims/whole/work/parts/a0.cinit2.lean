/-! the landed program: its rows of rows (new long[n][k]): a row for that instruction, and over a walk's cells -/
section MA
variable {p : Program} {l : Launch} {e : Env} {R : Room} {s : State} {m : MethodId} {args : Array Value} {below : List Frame} {meth : Method} {c : Code} {H : Heap} {locs : List Loc} {cells slots : Nat} {Q : State → Prop}
variable {cc : ByteArray} {pc : Nat} {ls : Array Slot} {rest : List Value} {D : va_G} {cl : List vw_C} {A : Nat → Prop} {tys : List (ClassId × FieldType)} {ws : va_W} {H0 : Heap}
/-- the outer row when i of its N places are filled -/
def maO (cA : ClassId) (N h i : Nat) : Cell := arrV cA N (fun j => if j < i then .ref (h + 1 + j) else .null)
def maR (cI : ClassId) (M : Nat) : Cell := arrV cI M (fun _ => .long 0)
theorem maO_s (cA : ClassId) (N h i : Nat) : (maO cA N h i).setSlot i (.ref (h + 1 + i)) = maO cA N h (i + 1) := by
  unfold maO
  rw [arrV_store]
  refine congrArg (arrV cA N) (funext fun j => ?_)
  unfold updV
  by_cases e : j = i
  · rw [if_pos e, if_pos (by omega), e]
  · by_cases h2 : j < i
    · rw [if_neg e]; exact (if_pos h2).trans (if_pos (by omega)).symm
    · rw [if_neg e]; exact (if_neg h2).trans (if_neg (by omega)).symm
/-- what stands behind i rows, in terms of the heap alone -/
def maH (H H1 : Heap) (cA cI : ClassId) (N M i : Nat) : Prop := H1.size = H.size + 1 + i ∧ (∀ q : Nat, q < H.size → H1[q]? = H[q]?) ∧ H1[H.size]? = some (maO cA N H.size i) ∧ ∀ j : Nat, j < i → H1[H.size + 1 + j]? = some (maR cI M)
theorem maH_0 (H : Heap) (cA cI : ClassId) (N M : Nat) : maH H (H.push (maO cA N H.size 0)) cA cI N M 0 := by
  refine ⟨by simp, fun q hq => ?_, by simp, fun j hj => absurd hj (by omega)⟩
  rw [Array.getElem?_push, if_neg (Nat.ne_of_lt hq)]
theorem maH_s {H H1 : Heap} {cA cI : ClassId} {N M i : Nat} (h : maH H H1 cA cI N M i) : maH H ((H1.push (maR cI M)).setIfInBounds H.size (maO cA N H.size (i + 1))) cA cI N M (i + 1) := by
  obtain ⟨h1, h2, h3, h4⟩ := h
  refine ⟨by rw [Array.size_setIfInBounds, Array.size_push, h1]; omega, fun q hq => ?_, ?_, fun j hj => ?_⟩
  · rw [Array.getElem?_setIfInBounds_ne (by omega), Array.getElem?_push, if_neg (by omega)]; exact h2 q hq
  · rw [Array.getElem?_setIfInBounds_self, if_pos (by rw [Array.size_push]; omega)]
  · rw [Array.getElem?_setIfInBounds_ne (by omega), Array.getElem?_push]
    by_cases e : H.size + 1 + j = H1.size
    · rw [if_pos e]
    · rw [if_neg e]; exact h4 j (by omega)
/-- the walk still stands, over the heap with i rows -/
def maI (p : Program) (l : Launch) (e : Env) (R : Room) (s : State) (m : MethodId) (args : Array Value) (below : List Frame) (meth : Method) (c : Code) (vm1 : Vm) (H : Heap) (locs : List Loc) (cells slots : Nat) (cA cI : ClassId) (N M i : Nat) (T : State) : Prop :=
  T.vm = vm1 ∧ maH H T.heap cA cI N M i ∧ ∃ locs1 : List Loc, (∀ q ∈ locs1, q ∈ locs ∨ q.base = H.size) ∧ Stand p l e R s m args below meth c T locs1 (cells + 1 + i) (slots + N + i * M)
theorem maI_0 {vm1 : Vm} {cA cI : ClassId} {N M : Nat} {T : State} (hv : T.vm = vm1) (hT : T.heap = H) (X : Stand p l e R s m args below meth c T locs cells slots) : maI p l e R s m args below meth c vm1 H locs cells slots cA cI N M 0 (T.pushCell (maO cA N H.size 0)) := by
  refine ⟨hv, ?_, locs, fun q hq => Or.inl hq, ?_⟩
  · show maH H (T.heap.push _) cA cI N M 0
    rw [hT]
    exact maH_0 H cA cI N M
  · have h := X.pushed (maO cA N H.size 0)
    rw [show (maO cA N H.size 0).slots.size = N from arrV_size _ _ _] at h
    rw [Nat.zero_mul]
    exact h
theorem maI_s {vm1 : Vm} {cA cI : ClassId} {N M i : Nat} {T : State} (h : maI p l e R s m args below meth c vm1 H locs cells slots cA cI N M i T) : maI p l e R s m args below meth c vm1 H locs cells slots cA cI N M (i + 1) ((T.pushCell (maR cI M)).setCell H.size (maO cA N H.size (i + 1))) := by
  obtain ⟨hv, hH, locs1, hl, X⟩ := h
  refine ⟨hv, maH_s hH, locs1 ++ [⟨H.size, i⟩], fun q hq => ?_, ?_⟩
  · rcases List.mem_append.mp hq with h | h
    · exact hl q h
    · exact Or.inr (by rw [List.mem_singleton.mp h])
  · have hc : (T.pushCell (maR cI M)).heap[H.size]? = some (maO cA N H.size i) := by
      show (T.heap.push _)[H.size]? = _
      rw [Array.getElem?_push, if_neg (by rw [hH.1]; omega)]
      exact hH.2.2.1
    have h := (X.pushed (maR cI M)).stored hc i (.ref (H.size + 1 + i))
    rw [maO_s, show (maR cI M).slots.size = M from arrV_size _ _ _] at h
    rw [show slots + N + (i + 1) * M = slots + N + i * M + M by rw [Nat.succ_mul]; omega]
    exact h
/-- the state behind i rows -/
def maT (T : State) (cA cI : ClassId) (N M : Nat) : Nat → State
  | 0 => T.pushCell (maO cA N T.heap.size 0)
  | i + 1 => ((maT T cA cI N M i).pushCell (maR cI M)).setCell T.heap.size (maO cA N T.heap.size (i + 1))
theorem maT_I {cA cI : ClassId} {N M : Nat} {T : State} (X : Stand p l e R s m args below meth c T locs cells slots) : ∀ i : Nat, maI p l e R s m args below meth c T.vm T.heap locs cells slots cA cI N M i (maT T cA cI N M i)
  | 0 => maI_0 rfl rfl X
  | i + 1 => maI_s (maT_I X i)
/-- a counted loop, its states told ahead -/
theorem ma_run {E : CtlPost} {St : Nat → State} {f : Nat → PUnit → Sem (ForInStep PUnit)} {N : Nat} (hf : ∀ i, i < N → ∀ (d : Bool) (acts : List Action) (Qf : ForInStep PUnit → Pre), (∀ (d1 : Bool) (acts1 : List Action), Qf (.yield PUnit.unit) d1 acts1 (St (i + 1))) → wp (f i PUnit.unit) Qf E e d acts (St i)) :
    ∀ (r i : Nat), i + r = N → ∀ (d : Bool) (acts : List Action) (Qu : PUnit → Pre), (∀ (d1 : Bool) (acts1 : List Action), Qu PUnit.unit d1 acts1 (St N)) → wp (forIn (List.range' i r) PUnit.unit f) Qu E e d acts (St i) := by
  intro r
  induction r with
  | zero =>
    intro i hi d acts Qu hq
    obtain rfl : i = N := hi
    simp only [List.range'_zero, List.forIn_nil, wp_pure']
    exact hq d acts
  | succ r ih =>
    intro i hi d acts Qu hq
    simp only [List.range'_succ, List.forIn_cons, wp_bind']
    exact hf i (by omega) d acts _ (fun d1 acts1 => ih (i + 1) (by omega) d1 acts1 Qu hq)
/-- one inner row -/
theorem ma_one {E : CtlPost} {d : Bool} {acts : List Action} {g : JFrame} {cI cJ : ClassId} {kI : Class} {k : Int32} {T : State} (hkI : T.vm.classes[cI]? = some kI) (hkindI : kI.kind = .array cJ .long) (hk : ¬ k < 0) (h1 : ¬ k.toNatClampNeg > e.platform.arrayLengthLimit) (h2 : ¬ k.toNatClampNeg * componentBytes .long > e.platform.maxHeapBytes) (h3 : T.heap.size < e.platform.maxCells) (h4 : T.slotsUsed + k.toNatClampNeg ≤ e.platform.maxSlots)
    {Qa : Addr → Pre} (hq : ∀ acts1, Qa T.heap.size d acts1 ((T.pushCell (maR cI k.toNatClampNeg)).setTop g)) : wp (multianewarray.make cI [k]) Qa E e d acts (T.setTop g) := by
  have hn : wp (Jvm.newArray cI k.toNatClampNeg (defaultValue .long)) Qa E e d acts (T.setTop g) := W.newArray_of (s := T.setTop g) hkI hkindI h1 h2 h3 h4 rfl (fun acts1 => by
    have := hq acts1
    rw [maR, ← arrV_new] at this
    exact this)
  unfold multianewarray.make
  simpa [hk, W.theClass, State.vm_setTop, hkI, hkindI] using hn
theorem ma_make {E : CtlPost} {d : Bool} {acts : List Action} {g : JFrame} {cA cI cJ : ClassId} {kA kI : Class} {n k : Int32} {N M : Nat} {T : State} (X : Stand p l e R s m args below meth c T locs cells slots) (hkA : T.vm.classes[cA]? = some kA) (hkindA : kA.kind = .array cI (.array .long)) (hkI : T.vm.classes[cI]? = some kI) (hkindI : kI.kind = .array cJ .long)
    (hn : ¬ n < 0) (hk : ¬ k < 0) (hN : n.toNatClampNeg = N) (hM : k.toNatClampNeg = M) (hb1 : N * 4 ≤ 536870912) (hb2 : M * 8 ≤ 536870912) (hcells : cells + 1 + N ≤ R.cells) (hslots : slots + N + N * M ≤ R.slots)
    {Qa : Addr → Pre} (hq : ∀ (d1 : Bool) (acts1 : List Action), Qa T.heap.size d1 acts1 ((maT T cA cI N M N).setTop g)) : wp (multianewarray.make cA [n, k]) Qa E e d acts (T.setTop g) := by
  subst hN hM
  have q1 : e.platform.arrayLengthLimit = _ := Launch.admits_arrayLengthLimit X.admits
  have q2 : e.platform.maxHeapBytes = _ := Launch.admits_maxHeapBytes X.admits
  have b1 : componentBytes (.array .long) = 4 := rfl
  have b2 : componentBytes .long = 8 := rfl
  have hz := Nat.zero_le (n.toNatClampNeg * k.toNatClampNeg)
  obtain ⟨r1, r2⟩ := X.roomAbove (show cells + 1 ≤ R.cells by omega) (show slots + n.toNatClampNeg ≤ R.slots by omega)
  have hloop : ∀ (d1 : Bool) (acts1 : List Action), wp (forIn (List.range' 0 n.toNatClampNeg) PUnit.unit (fun i _ => do Jvm.writeLoc T.heap.size i (.ref (← multianewarray.make cI [k])); Pure.pure (ForInStep.yield PUnit.unit))) (fun _ => Qa T.heap.size) E e d1 acts1 ((maT T cA cI n.toNatClampNeg k.toNatClampNeg 0).setTop g) := by
    intro d1 acts1
    refine ma_run (St := fun i => (maT T cA cI n.toNatClampNeg k.toNatClampNeg i).setTop g) (N := n.toNatClampNeg) (fun i hi d2 acts2 Qf hnext => ?_) n.toNatClampNeg 0 (Nat.zero_add _) d1 acts1 _ (fun d3 acts3 => hq d3 acts3)
    obtain ⟨hv, hH, locs1, -, X1⟩ := maT_I (cA := cA) (cI := cI) (N := n.toNatClampNeg) (M := k.toNatClampNeg) X i
    have hs1 : maT T cA cI n.toNatClampNeg k.toNatClampNeg (i + 1) = ((maT T cA cI n.toNatClampNeg k.toNatClampNeg i).pushCell (maR cI k.toNatClampNeg)).setCell T.heap.size (maO cA n.toNatClampNeg T.heap.size (i + 1)) := rfl
    rw [hs1] at hnext
    generalize maT T cA cI n.toNatClampNeg k.toNatClampNeg i = T1 at hv hH X1 hnext ⊢
    have hmul : (i + 1) * k.toNatClampNeg ≤ n.toNatClampNeg * k.toNatClampNeg := Nat.mul_le_mul_right _ hi
    rw [Nat.succ_mul] at hmul
    obtain ⟨r3, r4⟩ := X1.roomAbove (show cells + 1 + i + 1 ≤ R.cells by omega) (show slots + n.toNatClampNeg + i * k.toNatClampNeg + k.toNatClampNeg ≤ R.slots by omega)
    rw [wp_bind']
    refine ma_one (kI := kI) (cJ := cJ) (by rw [hv]; exact hkI) hkindI hk (by omega) (by rw [b2]; omega) (by omega) r4 (fun acts3 => ?_)
    rw [wp_bind', W.writeLoc]
    refine ⟨maO cA n.toNatClampNeg T.heap.size i, ?_, nofun, ?_, ?_, ?_⟩
    · show (T1.heap.push _)[T.heap.size]? = _
      rw [Array.getElem?_push, if_neg (by rw [hH.1]; omega)]
      exact hH.2.2.1
    · show i < (maO cA n.toNatClampNeg T.heap.size i).slots.size
      unfold maO
      rw [arrV_size]
      exact hi
    · have e1 : ((T1.pushCell (maR cI k.toNatClampNeg)).setTop g).vm.classes[cA]? = some kA := by rw [← hkA, ← hv]; rfl
      show ((T1.pushCell (maR cI k.toNatClampNeg)).setTop g).fitsSlot cA .none i (.ref T1.heap.size) = true
      unfold State.fitsSlot State.slotType?
      rw [e1]
      show (match (match kA.kind with | .array _ t => some t | _ => kA.instanceTypes[i]?) with | some t => fits t (.ref T1.heap.size) | none => false) = true
      rw [hkindA]
      rfl
    · rw [wp_pure', State.setCell_setTop, hH.1, maO_s]
      exact hnext _ _
  have hfirst : wp (Jvm.newArray cA n.toNatClampNeg .null) (fun a d1 acts1 S1 => a = T.heap.size ∧ S1 = (maT T cA cI n.toNatClampNeg k.toNatClampNeg 0).setTop g) E e d acts (T.setTop g) := by
    refine W.newArray_of (s := T.setTop g) hkA hkindA (by omega) (by rw [b1]; omega) (by show T.heap.size < _; omega) (by show T.slotsUsed + _ ≤ _; exact r2) rfl (fun acts1 => ⟨rfl, ?_⟩)
    rw [State.pushCell_setTop]
    refine congrArg (fun z => (T.pushCell z).setTop g) ?_
    unfold maO
    rw [arrV_new]
    exact congrArg (arrV cA _) (funext fun j => (if_neg (Nat.not_lt_zero j)).symm)
  unfold multianewarray.make
  simp only [hn, hkA, hkindA, W.theClass, State.vm_setTop, wp_bind', W.ite, if_false, wp_pure', Option.some.injEq, exists_eq_left']
  have hend : ∀ (d1 : Bool) (acts1 : List Action), wp (do for i in [0:n.toNatClampNeg] do { Jvm.writeLoc T.heap.size i (.ref (← multianewarray.make cI [k])) }; Pure.pure T.heap.size) Qa E e d1 acts1 ((maT T cA cI n.toNatClampNeg k.toNatClampNeg 0).setTop g) := fun d1 acts1 => by
    rw [wp_bind', Std.Legacy.Range.forIn_eq_forIn_range']
    have hsz : Std.Legacy.Range.size [:n.toNatClampNeg] = n.toNatClampNeg := by unfold Std.Legacy.Range.size; simp
    rw [hsz]
    simp only [wp_pure']
    exact hloop d1 acts1
  have hf0 : List.find? (fun z : Int32 => decide (z < 0)) [k] = none := List.find?_eq_none.mpr (fun z hz9 => by rw [List.mem_singleton.mp hz9]; simpa using hk)
  refine wp_mono _ e (fun a d1 acts1 S1 hS1 => ?_) (fun _ _ _ h => h) d acts _ hfirst
  obtain ⟨rfl, rfl⟩ := hS1
  rw [hf0]
  by_cases h0 : (n == 0) = true
  · rw [if_pos h0]; exact hend d1 acts1
  · rw [if_neg h0]; exact hend d1 acts1
/-- the instruction's meaning, once its entry of the pool is known -/
theorem ma_sem {E : CtlPost} {d : Bool} {acts : List Action} {g : JFrame} {index : Nat} {vm1 : Vm} {cA cI cJ : ClassId} {kA kI : Class} {n k : Int32} {N M : Nat} {T : State} (X : Stand p l e R s m args below meth c (T.setVm vm1) locs cells slots) (hT : T.topJava?.isSome) (hg : g.method = m) (hres : (Jvm.resolveClass m.cls index).Gives e.toSetting T.vm (.ok cA) vm1) (hsz : vm1.classes.size ≤ T.vm.classes.size) (hkA : vm1.classes[cA]? = some kA) (hkindA : kA.kind = .array cI (.array .long)) (hkI : vm1.classes[cI]? = some kI) (hkindI : kI.kind = .array cJ .long) (hstack : g.stack = .int k :: .int n :: rest)
    (hn : ¬ n < 0) (hk : ¬ k < 0) (hN : n.toNatClampNeg = N) (hM : k.toNatClampNeg = M) (hb1 : N * 4 ≤ 536870912) (hb2 : M * 8 ≤ 536870912) (hcells : cells + 1 + N ≤ R.cells) (hslots : slots + N + N * M ≤ R.slots)
    {Qu : Unit → Pre} (hq : ∀ (d1 : Bool) (acts1 : List Action), Qu () d1 acts1 ((maT (T.setVm vm1) cA cI N M N).setTop { g with stack := .ref T.heap.size :: rest })) : wp (multianewarray.sem index 2) Qu E e d acts (T.setTop g) := by
  subst hg
  obtain ⟨-, -, locs2, -, X2⟩ := maT_I (cA := cA) (cI := cI) (N := N) (M := M) X N
  have hpop : ∀ {Qv : List Value → Pre}, Qv [.int n, .int k] true acts ((T.setVm vm1).setTop { g with stack := rest }) → wp (Jvm.popN 2) Qv E e d acts ((T.setVm vm1).setTop g) := fun h => (Op.popN_top (s := T.setVm vm1) (args := [.int n, .int k]) (rest := rest) X.here.top hstack).mpr h
  unfold multianewarray.sem
  rw [wp_bind', W.resolveClassAt_links (State.method?_setTop g hT) hres hsz]
  rw [wp_bind']
  refine hpop ?_
  show wp (multianewarray.make cA [n, k] >>= fun a => (Jvm.mark "op.multianewarray" >>= fun _ => Jvm.pushRef a)) Qu E e true acts ((T.setVm vm1).setTop { g with stack := rest })
  rw [wp_bind']
  refine ma_make X hkA hkindA hkI hkindI hn hk hN hM hb1 hb2 hcells hslots (fun d1 acts1 => ?_)
  rw [wp_bind', W.mark, W.pushRef]
  refine ⟨_, State.topJava?_setTop' _ X2.here.top, ?_⟩
  rw [State.setTop_setTop]
  exact hq _ _
theorem W_ma (hexec : p.tables.exec = Jvm.exec) (hb : c.code = cc) {own : String} {index : Nat} (hown : s.vm.findClass own = some m.cls) (hclink : (Cond.classLink own index ("[" ++ (FieldType.array .long).toString)).before args s = true) {cA cI cJ : ClassId} {kA kI : Class} (fA : s.vm.findClass ("[" ++ (FieldType.array .long).toString) = some cA) (hkA : s.vm.classes[cA]? = some kA) (hkindA : kA.kind = .array cI (.array .long)) (hkI : s.vm.classes[cI]? = some kI) (hkindI : kI.kind = .array cJ .long)
    {g : JFrame} (hg : g.method = m) (hdg : decode cc g.pc = .ok (.multianewarray index 2, 4)) {n k : Int32} {N M : Nat} (hstack : g.stack = .int k :: .int n :: rest) (hn : ¬ n < 0) (hk : ¬ k < 0) (hN : n.toNatClampNeg = N) (hM : k.toNatClampNeg = M) (hb1 : N * 4 ≤ 536870912) (hb2 : M * 8 ≤ 536870912) (hcells : cells + 1 + N ≤ R.cells) (hslots : slots + N + N * M ≤ R.slots)
    (kk : ∀ (H1 : Heap) (locs1 : List Loc), maH H H1 cA cI N M N → (∀ q ∈ locs1, q ∈ locs ∨ q.base = H.size) → W p l e R s m args below meth c H1 locs1 (cells + 1 + N) (slots + N + N * M) Q { g with pc := g.pc + 4, stack := .ref H.size :: rest }) : W p l e R s m args below meth c H locs cells slots Q g := by
  intro T hT X
  subst hT hb
  obtain ⟨c0, hc0, hcl⟩ := Cond.classLink_spec hown hclink e.platform (by rw [X.admits.platform])
  obtain rfl : cA = c0 := Option.some.inj (fA.symm.trans hc0)
  subst hg
  obtain ⟨hres, hw, -⟩ := State.classEntry (e := e) X.warmed hcl
  have al := hw.alike
  obtain ⟨kB, hkB, eB⟩ := al.2.2 cA kA hkA
  obtain ⟨kJ, hkJ, eJ⟩ := al.2.2 cI kI hkI
  have X1 := X.noted hw
  obtain ⟨-, hH, locs2, hl, X2⟩ := maT_I (cA := cA) (cI := cI) (N := N) (M := M) X1 N
  obtain ⟨t, ht, hQt⟩ := kk _ locs2 hH hl _ rfl X2
  refine ⟨t, ?_, hQt⟩
  jvm_step X.here [hexec, hdg]
  refine ma_sem (rest := rest) X1 X.here.top rfl hres (by rw [al.2.1, X.warmed.alike.2.1]; exact Nat.le_refl _) hkB (by rw [eB]; exact hkindA) hkJ (by rw [eJ]; exact hkindI) hstack hn hk hN hM hb1 hb2 hcells hslots (fun d1 acts1 acts2 => ?_)
  simp [jvm, X2.here.top]
  exact ht
/-- and over the cells that a walk keeps -/
theorem k_newm (hexec : p.tables.exec = Jvm.exec) (hb : c.code = cc) {own : String} {index : Nat} (hown : s.vm.findClass own = some m.cls) (hclink : (Cond.classLink own index ("[" ++ (FieldType.array .long).toString)).before args s = true) (hover : cAOL s) (hK : va_K D cl tys s) (hP : va_P D cl ws H) (hD : va_D A ws) (hS : va_S A H0 H locs) (hA : ∀ q, H0.size ≤ q → A q)
    (t3 t7 : Nat) {y3 y7 : ClassId} (h3 : tys[t3]? = some (y3, .long)) (h7 : tys[t7]? = some (y7, .array .long)) {n k : Int32} {N M : Nat} (hn : ¬ n < 0) (hk : ¬ k < 0) (hN : n.toNatClampNeg = N) (hM : k.toNatClampNeg = M) (hb1 : N * 4 ≤ 536870912) (hb2 : M * 8 ≤ 536870912) (hcells : cells + 1 + N ≤ R.cells) (hslots : slots + N + N * M ≤ R.slots) (hdg : decode cc pc = .ok (.multianewarray index 2, 4))
    (kk : ∀ (q : Nat) (H1 : Heap) (locs1 : List Loc), va_P D cl (ws ++ ((q, .inl (y7, N, .inr (.inr (.inr (.inr (fun j => if j < N then some (q + 1 + j) else none)))))) :: (List.range N).map (fun j => (q + 1 + j, .inl (y3, M, .inr (.inl (fun _ => 0))))))) H1 → va_D A (ws ++ ((q, .inl (y7, N, .inr (.inr (.inr (.inr (fun j => if j < N then some (q + 1 + j) else none)))))) :: (List.range N).map (fun j => (q + 1 + j, .inl (y3, M, .inr (.inl (fun _ => 0))))))) → va_S A H0 H1 locs1 →
      W p l e R s m args below meth c H1 locs1 (cells + 1 + N) (slots + N + N * M) Q (F0 m (pc + 4) ls (.ref q :: rest))) : W p l e R s m args below meth c H locs cells slots Q (F0 m pc ls (.int k :: .int n :: rest)) := by
  obtain ⟨cI, cA, kA, fI, hkA, hkindA, fA⟩ := hover
  obtain ⟨hAr, hRA⟩ := hK.2 t3 _ h3
  obtain ⟨-, hR7⟩ := hK.2 t7 _ h7
  obtain ⟨-, kI, hkI, cJ, hkindI⟩ := hAr 0 (fun _ => .null)
  have e3 : cI = y3 := Option.some.inj (fI.symm.trans hRA)
  have e7 : cA = y7 := Option.some.inj (fA.symm.trans hR7)
  subst e3 e7
  refine W_ma hexec hb hown hclink fA hkA hkindA hkI hkindI rfl hdg rfl hn hk hN hM hb1 hb2 hcells hslots (fun H1 locs1 hH hl => ?_)
  have hlt : ∀ (i : Nat) (x : Nat × va_E), ws[i]? = some x → x.1 < H.size := fun i x hx => (hP i x hx).lt
  obtain ⟨z1, z2, z3, z4⟩ := hH
  have hnew : ∀ (i : Nat) (x : Nat × va_E), (((H.size, .inl (cA, N, .inr (.inr (.inr (.inr (fun j => if j < N then some (H.size + 1 + j) else none)))))) :: (List.range N).map (fun j => (H.size + 1 + j, .inl (cI, M, .inr (.inl (fun _ => 0)))))) : va_W)[i]? = some x → x.1 = H.size + i ∧ va_at D cl x H1 := by
    intro i x hx
    cases i with
    | zero =>
      cases hx
      refine ⟨rfl, ?_⟩
      show H1[H.size]? = some (vp_cell _ _)
      rw [z3, vp_cell_q]
      unfold maO
      refine congrArg (fun f => some (arrV cA N f)) (funext fun j => ?_)
      by_cases hj : j < N
      · rw [if_pos hj, if_pos hj]; rfl
      · rw [if_neg hj, if_neg hj]; rfl
    | succ i =>
      rw [List.getElem?_cons_succ, List.getElem?_map, Option.map_eq_some_iff] at hx
      obtain ⟨j, hj, rfl⟩ := hx
      obtain ⟨hl9, hj⟩ := List.getElem?_eq_some_iff.mp hj
      rw [List.getElem_range] at hj
      subst hj
      rw [List.length_range] at hl9
      refine ⟨by show H.size + 1 + i = _; omega, ?_⟩
      show H1[H.size + 1 + i]? = some (vp_cell _ _)
      rw [z4 i hl9]
      rfl
  refine kk H.size H1 locs1 ((hP.kept (fun i x hx => z2 x.1 (hlt i x hx))).app (fun i x hx => (hnew i x hx).2)) (va_D.app hD ⟨fun i j a b hi hj hab => ?_, fun i x hx => ?_⟩ (fun i j a b hi hj hab => ?_)) ⟨by have := hS.1; omega, fun q h1 h2 => (z2 q (Nat.lt_of_lt_of_le h1 hS.1)).trans (hS.2.1 q h1 h2), fun q hq => ?_⟩
  · have h1 := (hnew i a hi).1
    have h2 := (hnew j b hj).1
    omega
  · rw [(hnew i x hx).1]
    exact hA _ (by have := hS.1; omega)
  · have h1 := hlt i a hi
    have h2 := (hnew j b hj).1
    omega
  · rcases hl q hq with h | h
    · exact hS.2.2 q h
    · rw [h]; exact hA _ hS.1
end MA
theorem mna_J : "[" ++ (FieldType.array .long).toString = "[[J" := by decide +kernel
set_option maxHeartbeats 4000000 in
set_option maxRecDepth 100000 in
/-- BribeCounter -/
theorem ctX0_init (l : Launch) (D : va_G) (y : Nat → ClassId) (qs : Nat → Nat × Nat) (h : Nat) : lM l yX0_init wsX0_init ({ frames := 1, cells := 14, slots := 806, locals := 27 }) 14 806 D y qs h (.inr (0, [.null])) [] (fun w => ∃ a0 : Nat, w = [(h, .inr (0, [.ref a0])), (a0, .inl (y 7, 13, .inr (.inr (.inr (.inr (fun j => if j < 13 then some (a0 + 1 + j) else none)))))), (a0 + 1 + 0, .inl (y 3, 61, .inr (.inl (fun _ => 0)))), (a0 + 1 + 1, .inl (y 3, 61, .inr (.inl (fun _ => 0)))), (a0 + 1 + 2, .inl (y 3, 61, .inr (.inl (fun _ => 0)))), (a0 + 1 + 3, .inl (y 3, 61, .inr (.inl (fun _ => 0)))), (a0 + 1 + 4, .inl (y 3, 61, .inr (.inl (fun _ => 0)))), (a0 + 1 + 5, .inl (y 3, 61, .inr (.inl (fun _ => 0)))), (a0 + 1 + 6, .inl (y 3, 61, .inr (.inl (fun _ => 0)))), (a0 + 1 + 7, .inl (y 3, 61, .inr (.inl (fun _ => 0)))), (a0 + 1 + 8, .inl (y 3, 61, .inr (.inl (fun _ => 0)))), (a0 + 1 + 9, .inl (y 3, 61, .inr (.inl (fun _ => 0)))), (a0 + 1 + 10, .inl (y 3, 61, .inr (.inl (fun _ => 0)))), (a0 + 1 + 11, .inl (y 3, 61, .inr (.inl (fun _ => 0)))), (a0 + 1 + 12, .inl (y 3, 61, .inr (.inl (fun _ => 0))))]) := by
  refine lM_of (cc := cX0_init) (maxL := 1) (by decide) rfl rfl (Nat.le_of_ble_eq_true rfl) ?_
  intro p e s m below meth c A ls hx hb hr hml hts hown hlocks hnm hK hP hD hA hE hAe hl
  have hown : s.vm.findClass RX0 = some m.cls := hown
  have hin0 : ∀ w ∈ wsX00, w ∈ wsX0_init := fun _ h9 => List.mem_cons_of_mem _ (List.mem_append_right _ h9)
  have hl : lv_has ls 1 [(0, .ref h)] := hl
  have hS : va_S A s.heap s.heap [] := va_S.rf
  refine lv_aload_n hx hb dX0_init_0 rfl (lv_at hl 0 rfl) ?_
  refine W.objInit hx hb hown (hts (.methodLink RX0 5 objectInit) (by decide +kernel)) (hts (.instanceMethod objectInit) (by decide +kernel)) (hts (.code objectInit ⟨#[0xb1]⟩ 1 none) (by decide +kernel)) rfl (by rw [hml]; exact hl.1) rfl dX0_init_1 (Nat.le_of_ble_eq_true rfl) (Nat.le_of_ble_eq_true rfl) ?_
  refine W.eq (g2 := F0 m 4 ls []) rfl ?_
  refine lv_aload_n hx hb dX0_init_4 rfl (lv_at hl 0 rfl) ?_
  refine lv_bipush (v := 13) hx hb dX0_init_5 (by decide) ?_
  refine lv_bipush (v := 61) hx hb dX0_init_7 (by decide) ?_
  refine k_newm (N := 13) (M := 61) hx hb hown (by rw [mna_J]; exact hts (.classLink RX0 11 "[[J") (by decide +kernel)) hE.2.2.2.2.2 hK hP hD hS hA 3 7 rfl rfl (by decide) (by decide) (by decide) (by decide) (by decide) (by decide) (Nat.le_of_ble_eq_true rfl) (Nat.le_of_ble_eq_true rfl) dX0_init_9 (fun q1 H locs hP hD hS => ?_)
  have hP : va_P D vwCl [(h, .inr (0, [.null])), (q1, .inl (y 7, 13, .inr (.inr (.inr (.inr (fun j => if j < 13 then some (q1 + 1 + j) else none)))))), (q1 + 1 + 0, .inl (y 3, 61, .inr (.inl (fun _ => 0)))), (q1 + 1 + 1, .inl (y 3, 61, .inr (.inl (fun _ => 0)))), (q1 + 1 + 2, .inl (y 3, 61, .inr (.inl (fun _ => 0)))), (q1 + 1 + 3, .inl (y 3, 61, .inr (.inl (fun _ => 0)))), (q1 + 1 + 4, .inl (y 3, 61, .inr (.inl (fun _ => 0)))), (q1 + 1 + 5, .inl (y 3, 61, .inr (.inl (fun _ => 0)))), (q1 + 1 + 6, .inl (y 3, 61, .inr (.inl (fun _ => 0)))), (q1 + 1 + 7, .inl (y 3, 61, .inr (.inl (fun _ => 0)))), (q1 + 1 + 8, .inl (y 3, 61, .inr (.inl (fun _ => 0)))), (q1 + 1 + 9, .inl (y 3, 61, .inr (.inl (fun _ => 0)))), (q1 + 1 + 10, .inl (y 3, 61, .inr (.inl (fun _ => 0)))), (q1 + 1 + 11, .inl (y 3, 61, .inr (.inl (fun _ => 0)))), (q1 + 1 + 12, .inl (y 3, 61, .inr (.inl (fun _ => 0))))] H := hP
  have hD : va_D A [(h, .inr (0, [.null])), (q1, .inl (y 7, 13, .inr (.inr (.inr (.inr (fun j => if j < 13 then some (q1 + 1 + j) else none)))))), (q1 + 1 + 0, .inl (y 3, 61, .inr (.inl (fun _ => 0)))), (q1 + 1 + 1, .inl (y 3, 61, .inr (.inl (fun _ => 0)))), (q1 + 1 + 2, .inl (y 3, 61, .inr (.inl (fun _ => 0)))), (q1 + 1 + 3, .inl (y 3, 61, .inr (.inl (fun _ => 0)))), (q1 + 1 + 4, .inl (y 3, 61, .inr (.inl (fun _ => 0)))), (q1 + 1 + 5, .inl (y 3, 61, .inr (.inl (fun _ => 0)))), (q1 + 1 + 6, .inl (y 3, 61, .inr (.inl (fun _ => 0)))), (q1 + 1 + 7, .inl (y 3, 61, .inr (.inl (fun _ => 0)))), (q1 + 1 + 8, .inl (y 3, 61, .inr (.inl (fun _ => 0)))), (q1 + 1 + 9, .inl (y 3, 61, .inr (.inl (fun _ => 0)))), (q1 + 1 + 10, .inl (y 3, 61, .inr (.inl (fun _ => 0)))), (q1 + 1 + 11, .inl (y 3, 61, .inr (.inl (fun _ => 0)))), (q1 + 1 + 12, .inl (y 3, 61, .inr (.inl (fun _ => 0))))] := hD
  refine W.widen (k := 14) (n := 806) (by decide) (by decide) ?_
  refine va_putF (D := D) (ci := 0) (v := .ref q1) (ty := .array (.array (.long))) (C := RX0) (T := TX0) (N := 1) hx hb hts hin0 tyX0 tyX0_ok nmX0 hown hK hP hD hS 0 rfl rfl 0 (by decide) (hts (.fieldLink RX0 13 "LotMachine$BribeCounter" "ways" "[[J") (by decide +kernel)) (fun _ h9 => h9) rfl hnm rfl (by decide +kernel) rfl rfl (Nat.le_of_ble_eq_true rfl) dX0_init_13 (fun H locs hP hD hS => ?_)
  have hP : va_P D vwCl [(h, .inr (0, [.ref q1])), (q1, .inl (y 7, 13, .inr (.inr (.inr (.inr (fun j => if j < 13 then some (q1 + 1 + j) else none)))))), (q1 + 1 + 0, .inl (y 3, 61, .inr (.inl (fun _ => 0)))), (q1 + 1 + 1, .inl (y 3, 61, .inr (.inl (fun _ => 0)))), (q1 + 1 + 2, .inl (y 3, 61, .inr (.inl (fun _ => 0)))), (q1 + 1 + 3, .inl (y 3, 61, .inr (.inl (fun _ => 0)))), (q1 + 1 + 4, .inl (y 3, 61, .inr (.inl (fun _ => 0)))), (q1 + 1 + 5, .inl (y 3, 61, .inr (.inl (fun _ => 0)))), (q1 + 1 + 6, .inl (y 3, 61, .inr (.inl (fun _ => 0)))), (q1 + 1 + 7, .inl (y 3, 61, .inr (.inl (fun _ => 0)))), (q1 + 1 + 8, .inl (y 3, 61, .inr (.inl (fun _ => 0)))), (q1 + 1 + 9, .inl (y 3, 61, .inr (.inl (fun _ => 0)))), (q1 + 1 + 10, .inl (y 3, 61, .inr (.inl (fun _ => 0)))), (q1 + 1 + 11, .inl (y 3, 61, .inr (.inl (fun _ => 0)))), (q1 + 1 + 12, .inl (y 3, 61, .inr (.inl (fun _ => 0))))] H := hP
  have hD : va_D A [(h, .inr (0, [.ref q1])), (q1, .inl (y 7, 13, .inr (.inr (.inr (.inr (fun j => if j < 13 then some (q1 + 1 + j) else none)))))), (q1 + 1 + 0, .inl (y 3, 61, .inr (.inl (fun _ => 0)))), (q1 + 1 + 1, .inl (y 3, 61, .inr (.inl (fun _ => 0)))), (q1 + 1 + 2, .inl (y 3, 61, .inr (.inl (fun _ => 0)))), (q1 + 1 + 3, .inl (y 3, 61, .inr (.inl (fun _ => 0)))), (q1 + 1 + 4, .inl (y 3, 61, .inr (.inl (fun _ => 0)))), (q1 + 1 + 5, .inl (y 3, 61, .inr (.inl (fun _ => 0)))), (q1 + 1 + 6, .inl (y 3, 61, .inr (.inl (fun _ => 0)))), (q1 + 1 + 7, .inl (y 3, 61, .inr (.inl (fun _ => 0)))), (q1 + 1 + 8, .inl (y 3, 61, .inr (.inl (fun _ => 0)))), (q1 + 1 + 9, .inl (y 3, 61, .inr (.inl (fun _ => 0)))), (q1 + 1 + 10, .inl (y 3, 61, .inr (.inl (fun _ => 0)))), (q1 + 1 + 11, .inl (y 3, 61, .inr (.inl (fun _ => 0)))), (q1 + 1 + 12, .inl (y 3, 61, .inr (.inl (fun _ => 0))))] := hD
  exact l_ret hx hb hr hlocks hAe hK hP hD hS dX0_init_16 (⟨q1, rfl⟩)
