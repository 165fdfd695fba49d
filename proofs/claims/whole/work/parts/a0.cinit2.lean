/-! the landed program: its rows of rows (new long[n][k]): a row for that instruction, and over a walk's cells -/
section MA
variable {p : Program} {l : Launch} {e : Env} {R : Room} {s : State} {m : MethodId} {args : Array Value} {below : List Frame} {meth : Method} {c : Code} {H : Heap} {locs : List Loc} {cells slots : Nat} {Q : State → Prop}
variable {cc : ByteArray} {pc : Nat} {ls : Array Slot} {rest : List Value} {D : va_G} {cl : List vw_C} {A : Nat → Prop} {tys : List (ClassId × FieldType)} {ws : va_W} {H0 : Heap}
/-- the outer row when i of its N places are filled -/
def maO (cA : ClassId) (N h i : Nat) : Cell := arrV cA N (fun j => if j < i then .ref (h + 1 + j) else .null)
def maR (cI : ClassId) (M : Nat) : Cell := arrV cI M (fun _ => .long 0)
theorem maO_s (cA : ClassId) (N h i : Nat) : (maO cA N h i).setSlot i (.ref (h + 1 + i)) = maO cA N h (i + 1) := by
  unfold maO
  rw [arrV_store]
  refine congrArg (arrV cA N) (funext fun j => ?_)
  unfold updV
  by_cases e : j = i
  · rw [if_pos e, if_pos (by omega), e]
  · by_cases h2 : j < i
    · rw [if_neg e]; exact (if_pos h2).trans (if_pos (by omega)).symm
    · rw [if_neg e]; exact (if_neg h2).trans (if_neg (by omega)).symm
/-- what stands behind i rows, in terms of the heap alone -/
def maH (H H1 : Heap) (cA cI : ClassId) (N M i : Nat) : Prop := H1.size = H.size + 1 + i ∧ (∀ q : Nat, q < H.size → H1[q]? = H[q]?) ∧ H1[H.size]? = some (maO cA N H.size i) ∧ ∀ j : Nat, j < i → H1[H.size + 1 + j]? = some (maR cI M)
theorem maH_0 (H : Heap) (cA cI : ClassId) (N M : Nat) : maH H (H.push (maO cA N H.size 0)) cA cI N M 0 := by
  refine ⟨by simp, fun q hq => ?_, by simp, fun j hj => absurd hj (by omega)⟩
  rw [Array.getElem?_push, if_neg (Nat.ne_of_lt hq)]
theorem maH_s {H H1 : Heap} {cA cI : ClassId} {N M i : Nat} (h : maH H H1 cA cI N M i) : maH H ((H1.push (maR cI M)).setIfInBounds H.size (maO cA N H.size (i + 1))) cA cI N M (i + 1) := by
  obtain ⟨h1, h2, h3, h4⟩ := h
  refine ⟨by rw [Array.size_setIfInBounds, Array.size_push, h1]; omega, fun q hq => ?_, ?_, fun j hj => ?_⟩
  · rw [Array.getElem?_setIfInBounds_ne (by omega), Array.getElem?_push, if_neg (by omega)]; exact h2 q hq
  · rw [Array.getElem?_setIfInBounds_self, if_pos (by rw [Array.size_push]; omega)]
  · rw [Array.getElem?_setIfInBounds_ne (by omega), Array.getElem?_push]
    by_cases e : H.size + 1 + j = H1.size
    · rw [if_pos e]
    · rw [if_neg e]; exact h4 j (by omega)
/-- the walk still stands, over the heap with i rows -/
def maI (p : Program) (l : Launch) (e : Env) (R : Room) (s : State) (m : MethodId) (args : Array Value) (below : List Frame) (meth : Method) (c : Code) (vm1 : Vm) (H : Heap) (locs : List Loc) (cells slots : Nat) (cA cI : ClassId) (N M i : Nat) (T : State) : Prop :=
  T.vm = vm1 ∧ maH H T.heap cA cI N M i ∧ ∃ locs1 : List Loc, (∀ q ∈ locs1, q ∈ locs ∨ q.base = H.size) ∧ Stand p l e R s m args below meth c T locs1 (cells + 1 + i) (slots + N + i * M)
theorem maI_0 {vm1 : Vm} {cA cI : ClassId} {N M : Nat} {T : State} (hv : T.vm = vm1) (hT : T.heap = H) (X : Stand p l e R s m args below meth c T locs cells slots) : maI p l e R s m args below meth c vm1 H locs cells slots cA cI N M 0 (T.pushCell (maO cA N H.size 0)) := by
  refine ⟨hv, ?_, locs, fun q hq => Or.inl hq, ?_⟩
  · show maH H (T.heap.push _) cA cI N M 0
    rw [hT]
    exact maH_0 H cA cI N M
  · have h := X.pushed (maO cA N H.size 0)
    rw [show (maO cA N H.size 0).slots.size = N from arrV_size _ _ _] at h
    rw [Nat.zero_mul]
    exact h
theorem maI_s {vm1 : Vm} {cA cI : ClassId} {N M i : Nat} {T : State} (h : maI p l e R s m args below meth c vm1 H locs cells slots cA cI N M i T) : maI p l e R s m args below meth c vm1 H locs cells slots cA cI N M (i + 1) ((T.pushCell (maR cI M)).setCell H.size (maO cA N H.size (i + 1))) := by
  obtain ⟨hv, hH, locs1, hl, X⟩ := h
  refine ⟨hv, maH_s hH, locs1 ++ [⟨H.size, i⟩], fun q hq => ?_, ?_⟩
  · rcases List.mem_append.mp hq with h | h
    · exact hl q h
    · exact Or.inr (by rw [List.mem_singleton.mp h])
  · have hc : (T.pushCell (maR cI M)).heap[H.size]? = some (maO cA N H.size i) := by
      show (T.heap.push _)[H.size]? = _
      rw [Array.getElem?_push, if_neg (by rw [hH.1]; omega)]
      exact hH.2.2.1
    have h := (X.pushed (maR cI M)).stored hc i (.ref (H.size + 1 + i))
    rw [maO_s, show (maR cI M).slots.size = M from arrV_size _ _ _] at h
    rw [show slots + N + (i + 1) * M = slots + N + i * M + M by rw [Nat.succ_mul]; omega]
    exact h
/-- the state behind i rows -/
def maT (T : State) (cA cI : ClassId) (N M : Nat) : Nat → State
  | 0 => T.pushCell (maO cA N T.heap.size 0)
  | i + 1 => ((maT T cA cI N M i).pushCell (maR cI M)).setCell T.heap.size (maO cA N T.heap.size (i + 1))
theorem maT_I {cA cI : ClassId} {N M : Nat} {T : State} (X : Stand p l e R s m args below meth c T locs cells slots) : ∀ i : Nat, maI p l e R s m args below meth c T.vm T.heap locs cells slots cA cI N M i (maT T cA cI N M i)
  | 0 => maI_0 rfl rfl X
  | i + 1 => maI_s (maT_I X i)
/-- a counted loop, its states told ahead -/
theorem ma_run {E : CtlPost} {St : Nat → State} {f : Nat → PUnit → Sem (ForInStep PUnit)} {N : Nat} (hf : ∀ i, i < N → ∀ (d : Bool) (acts : List Action) (Qf : ForInStep PUnit → Pre), (∀ (d1 : Bool) (acts1 : List Action), Qf (.yield PUnit.unit) d1 acts1 (St (i + 1))) → wp (f i PUnit.unit) Qf E e d acts (St i)) :
    ∀ (r i : Nat), i + r = N → ∀ (d : Bool) (acts : List Action) (Qu : PUnit → Pre), (∀ (d1 : Bool) (acts1 : List Action), Qu PUnit.unit d1 acts1 (St N)) → wp (forIn (List.range' i r) PUnit.unit f) Qu E e d acts (St i) := by
  intro r
  induction r with
  | zero =>
    intro i hi d acts Qu hq
    obtain rfl : i = N := hi
    simp only [List.range'_zero, List.forIn_nil, wp_pure']
    exact hq d acts
  | succ r ih =>
    intro i hi d acts Qu hq
    simp only [List.range'_succ, List.forIn_cons, wp_bind']
    exact hf i (by omega) d acts _ (fun d1 acts1 => ih (i + 1) (by omega) d1 acts1 Qu hq)
/-- one inner row -/
theorem ma_one {E : CtlPost} {d : Bool} {acts : List Action} {g : JFrame} {cI cJ : ClassId} {kI : Class} {k : Int32} {T : State} (hkI : T.vm.classes[cI]? = some kI) (hkindI : kI.kind = .array cJ .long) (hk : ¬ k < 0) (h1 : ¬ k.toNatClampNeg > e.platform.arrayLengthLimit) (h2 : ¬ k.toNatClampNeg * componentBytes .long > e.platform.maxHeapBytes) (h3 : T.heap.size < e.platform.maxCells) (h4 : T.slotsUsed + k.toNatClampNeg ≤ e.platform.maxSlots)
    {Qa : Addr → Pre} (hq : ∀ acts1, Qa T.heap.size d acts1 ((T.pushCell (maR cI k.toNatClampNeg)).setTop g)) : wp (multianewarray.make cI [k]) Qa E e d acts (T.setTop g) := by
  have hn : wp (Jvm.newArray cI k.toNatClampNeg (defaultValue .long)) Qa E e d acts (T.setTop g) := W.newArray_of (s := T.setTop g) hkI hkindI h1 h2 h3 h4 rfl (fun acts1 => by
    have := hq acts1
    rw [maR, ← arrV_new] at this
    exact this)
  unfold multianewarray.make
  simpa [hk, W.theClass, State.vm_setTop, hkI, hkindI] using hn
theorem ma_make {E : CtlPost} {d : Bool} {acts : List Action} {g : JFrame} {cA cI cJ : ClassId} {kA kI : Class} {n k : Int32} {N M : Nat} {T : State} (X : Stand p l e R s m args below meth c T locs cells slots) (hkA : T.vm.classes[cA]? = some kA) (hkindA : kA.kind = .array cI (.array .long)) (hkI : T.vm.classes[cI]? = some kI) (hkindI : kI.kind = .array cJ .long)
    (hn : ¬ n < 0) (hk : ¬ k < 0) (hN : n.toNatClampNeg = N) (hM : k.toNatClampNeg = M) (hb1 : N * 4 ≤ 536870912) (hb2 : M * 8 ≤ 536870912) (hcells : cells + 1 + N ≤ R.cells) (hslots : slots + N + N * M ≤ R.slots)
    {Qa : Addr → Pre} (hq : ∀ (d1 : Bool) (acts1 : List Action), Qa T.heap.size d1 acts1 ((maT T cA cI N M N).setTop g)) : wp (multianewarray.make cA [n, k]) Qa E e d acts (T.setTop g) := by
  subst hN hM
  have q1 : e.platform.arrayLengthLimit = _ := Launch.admits_arrayLengthLimit X.admits
  have q2 : e.platform.maxHeapBytes = _ := Launch.admits_maxHeapBytes X.admits
  have b1 : componentBytes (.array .long) = 4 := rfl
  have b2 : componentBytes .long = 8 := rfl
  have hz := Nat.zero_le (n.toNatClampNeg * k.toNatClampNeg)
  obtain ⟨r1, r2⟩ := X.roomAbove (show cells + 1 ≤ R.cells by omega) (show slots + n.toNatClampNeg ≤ R.slots by omega)
  have hloop : ∀ (d1 : Bool) (acts1 : List Action), wp (forIn (List.range' 0 n.toNatClampNeg) PUnit.unit (fun i _ => do Jvm.writeLoc T.heap.size i (.ref (← multianewarray.make cI [k])); Pure.pure (ForInStep.yield PUnit.unit))) (fun _ => Qa T.heap.size) E e d1 acts1 ((maT T cA cI n.toNatClampNeg k.toNatClampNeg 0).setTop g) := by
    intro d1 acts1
    refine ma_run (St := fun i => (maT T cA cI n.toNatClampNeg k.toNatClampNeg i).setTop g) (N := n.toNatClampNeg) (fun i hi d2 acts2 Qf hnext => ?_) n.toNatClampNeg 0 (Nat.zero_add _) d1 acts1 _ (fun d3 acts3 => hq d3 acts3)
    obtain ⟨hv, hH, locs1, -, X1⟩ := maT_I (cA := cA) (cI := cI) (N := n.toNatClampNeg) (M := k.toNatClampNeg) X i
    have hs1 : maT T cA cI n.toNatClampNeg k.toNatClampNeg (i + 1) = ((maT T cA cI n.toNatClampNeg k.toNatClampNeg i).pushCell (maR cI k.toNatClampNeg)).setCell T.heap.size (maO cA n.toNatClampNeg T.heap.size (i + 1)) := rfl
    rw [hs1] at hnext
    generalize maT T cA cI n.toNatClampNeg k.toNatClampNeg i = T1 at hv hH X1 hnext ⊢
    have hmul : (i + 1) * k.toNatClampNeg ≤ n.toNatClampNeg * k.toNatClampNeg := Nat.mul_le_mul_right _ hi
    rw [Nat.succ_mul] at hmul
    obtain ⟨r3, r4⟩ := X1.roomAbove (show cells + 1 + i + 1 ≤ R.cells by omega) (show slots + n.toNatClampNeg + i * k.toNatClampNeg + k.toNatClampNeg ≤ R.slots by omega)
    rw [wp_bind']
    refine ma_one (kI := kI) (cJ := cJ) (by rw [hv]; exact hkI) hkindI hk (by omega) (by rw [b2]; omega) (by omega) r4 (fun acts3 => ?_)
    rw [wp_bind', W.writeLoc]
    refine ⟨maO cA n.toNatClampNeg T.heap.size i, ?_, nofun, ?_, ?_, ?_⟩
    · show (T1.heap.push _)[T.heap.size]? = _
      rw [Array.getElem?_push, if_neg (by rw [hH.1]; omega)]
      exact hH.2.2.1
    · show i < (maO cA n.toNatClampNeg T.heap.size i).slots.size
      unfold maO
      rw [arrV_size]
      exact hi
    · have e1 : ((T1.pushCell (maR cI k.toNatClampNeg)).setTop g).vm.classes[cA]? = some kA := by rw [← hkA, ← hv]; rfl
      show ((T1.pushCell (maR cI k.toNatClampNeg)).setTop g).fitsSlot cA .none i (.ref T1.heap.size) = true
      unfold State.fitsSlot State.slotType?
      rw [e1]
      show (match (match kA.kind with | .array _ t => some t | _ => kA.instanceTypes[i]?) with | some t => fits t (.ref T1.heap.size) | none => false) = true
      rw [hkindA]
      rfl
    · rw [wp_pure', State.setCell_setTop, hH.1, maO_s]
      exact hnext _ _
  have hfirst : wp (Jvm.newArray cA n.toNatClampNeg .null) (fun a d1 acts1 S1 => a = T.heap.size ∧ S1 = (maT T cA cI n.toNatClampNeg k.toNatClampNeg 0).setTop g) E e d acts (T.setTop g) := by
    refine W.newArray_of (s := T.setTop g) hkA hkindA (by omega) (by rw [b1]; omega) (by show T.heap.size < _; omega) (by show T.slotsUsed + _ ≤ _; exact r2) rfl (fun acts1 => ⟨rfl, ?_⟩)
    rw [State.pushCell_setTop]
    refine congrArg (fun z => (T.pushCell z).setTop g) ?_
    unfold maO
    rw [arrV_new]
    exact congrArg (arrV cA _) (funext fun j => (if_neg (Nat.not_lt_zero j)).symm)
  unfold multianewarray.make
  simp only [hn, hkA, hkindA, W.theClass, State.vm_setTop, wp_bind', W.ite, if_false, wp_pure', Option.some.injEq, exists_eq_left']
  trace_state
  sorry
end MA
theorem mna_J : "[" ++ (FieldType.array .long).toString = "[[J" := by decide +kernel
