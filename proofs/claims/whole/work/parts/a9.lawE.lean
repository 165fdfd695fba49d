/-! the law's start: what the tables and the given start say -/
theorem has_0 : cHas RI 0 0 := by
  have h1 : ∀ ρ ∈ RI, ρ.2 < cap 0 0 ρ.1 := by decide +kernel
  have h2 : (List.range 27).all (fun κ => (List.range 13).all (fun i => !decide (i < cap 0 0 κ) || RI.elem (κ, i))) = true := by decide +kernel
  have h3 : ∀ κ, κ < 27 → cap 0 0 κ ≤ 13 := by decide +kernel
  have h4 : ∀ κ, cap 0 0 (κ + 27) = 0 := fun _ => rfl
  intro κ i
  refine ⟨fun h => h1 _ h, fun h => ?_⟩
  by_cases hk : κ < 27
  · have h5 := List.all_eq_true.mp (List.all_eq_true.mp h2 κ (List.mem_range.mpr hk)) i (List.mem_range.mpr (Nat.lt_of_lt_of_le h (h3 κ hk)))
    rw [decide_eq_true h, Bool.not_true, Bool.false_or] at h5
    exact List.elem_iff.mp h5
  · obtain ⟨k, rfl⟩ : ∃ k, κ = k + 27 := ⟨κ - 27, by omega⟩
    rw [h4] at h
    exact absurd h (Nat.not_lt_zero _)
theorem pl_0 : ∀ w, w < 51 → fPl w = lwv (fun z => mPlain (nI z)) (-1) w := by decide +kernel
theorem nn_0 (N : Nat) : nn 0 N := ⟨rfl, Nat.zero_le _⟩
theorem rel_0 {v : mS} (h1 : v.1 = upd (fun _ => 0) 9 (-1)) (h2 : ∀ s i, v.2.1 s i = 0) (h3 : ∀ n k, n < 32 → k ≤ n → v.2.2 29 (32 * n + k) = lN (ch n k)) : Rel 0 0 xI v := by
  have z : ∀ j, ¬ j = 9 → v.1 j = 0 := fun j hj => by rw [h1]; exact pk_un hj
  have s0 : sI (0 : Int32) = 0 := rfl
  refine ⟨⟨rfl, z 15 (by decide), by decide, (z 14 (by decide)).symm, by rw [z 14 (by decide)]; exact nn_0 _, (z 48 (by decide)).symm, (z 49 (by decide)).symm, (z 8 (by decide)).symm, by rw [h1, pk_us]; rfl⟩, ⟨(z 1 (by decide)).symm, by rw [z 1 (by decide)]; exact nn_0 _, fun j _ => ⟨(h2 0 j).symm, by rw [h2]; exact ⟨by decide, by decide⟩⟩⟩, ⟨rfl, z 12 (by decide), by decide, fun j hj => absurd hj (Nat.not_lt_zero _), rfl, fun w hw => pl_0 w hw⟩, ⟨fun c hc => absurd hc (Nat.not_lt_zero _), fun c _ _ => ⟨h2 _ _, h2 _ _, h2 _ _, h2 _ _⟩, fun κ i j c h => nomatch h⟩, ⟨rfl, fun i hi => absurd hi (Nat.not_lt_zero _), fun c hc => absurd hc (Nat.not_lt_zero _), fun _ _ _ _ => rfl, fun c hc => absurd hc (Nat.not_lt_zero _), fun t _ => (h2 25 t).symm⟩, ⟨fun c hc => absurd hc (Nat.not_lt_zero _), fun c hc => absurd hc (Nat.not_lt_zero _), fun t _ w _ p hp => absurd hp (Nat.not_lt_zero _)⟩, ⟨(z 27 (by decide)).symm, by rw [z 27 (by decide)]; exact nn_0 _, fun i hi => ?_, fun i j hi => ?_, by rw [z 27 (by decide), s0]; exact Nat.zero_le _, (z 28 (by decide)).symm, by rw [z 28 (by decide)]; exact nn_0 _, by rw [z 28 (by decide), s0]; exact Nat.zero_le _⟩, fun k hk => ?_, ⟨fun k _ i hi => ?_, fun k _ i hi => ?_⟩, fun a b ha hb => h3 a b ha hb⟩
  · rw [z 27 (by decide), s0] at hi; exact absurd hi (Nat.not_lt_zero _)
  · rw [z 27 (by decide), s0] at hi; exact absurd hi (Nat.not_lt_zero _)
  · refine ⟨⟨(h2 _ _).symm, by rw [h2]; exact nn_0 _, (h2 _ _).symm, by rw [h2]; exact nn_0 _, by rw [h2, h2]; exact Nat.le_refl _⟩, fun i hi => ?_, fun i _ => ⟨(h2 _ _).symm, (h2 _ _).symm⟩, ⟨(h2 _ _).symm, (h2 _ _).symm, nn_0 _⟩, ⟨(h2 _ _).symm, (h2 _ _).symm, (h2 _ _).symm, (h2 _ _).symm, (h2 _ _).symm, (h2 _ _).symm, (h2 _ _).symm, (h2 _ _).symm⟩, ⟨(h2 _ _).symm, (h2 _ _).symm, (h2 _ _).symm⟩, fun h => absurd (h2 _ _) h, fun h => absurd (h2 _ _) h⟩
    rw [h2, s0] at hi; exact absurd hi (Nat.not_lt_zero _)
  · rw [h2, s0] at hi; exact absurd hi (Nat.not_lt_zero _)
  · rw [h2, s0] at hi; exact absurd hi (Nat.not_lt_zero _)
/-- what is given of the start, in a row -/
def fl : List Cond := flatC (Jvm.Cond.and given_1 narrow_1)
theorem sE_of {args : Array Value} {s : State} {A : Nat → Prop} (hs : ∀ w ∈ fl, w.before args s = true) (own : String) (k i0 : Nat) (tx : List Int32) (hN : tx.length < 2 ^ 31) (h0 : fl[i0]? = some (.exactly (.string own k) "java/lang/String")) (h1 : fl[i0 + 1]? = some (.eq (.field (.string own k) "java/lang/String" "coder" "B") (.int 0))) (h2 : fl[i0 + 2]? = some (.arrayOf (.field (.string own k) "java/lang/String" "value" "[B") .byte)) (h3 : fl[i0 + 3]? = some (.eq (.length (.field (.string own k) "java/lang/String" "value" "[B")) (.int (Int32.ofNat tx.length))))
    (h4 : ∀ j, j < tx.length → fl[i0 + 4 + j]? = some (.eq (.elem (.field (.string own k) "java/lang/String" "value" "[B") (.int (Int32.ofNat j))) (.int (tx.getD j 0)))) (hZ : va_Z "java/lang/String" "COMPACT_STRINGS" "Z" (.int 1) A s s.heap) (hq : va_Zq "jdk/internal/util/Preconditions" "SIOOBE_FORMATTER" "Ljava/util/function/BiFunction;" A s s.heap) (hA : ∀ a : Nat, a < s.heap.size → ¬ A a) : ∃ q qv : Nat, sE tx q qv A s s.heap ∧ (Term.string own k).eval args s none [] s = some (.ref q) := by
  have g : ∀ {w : Cond} {i : Nat}, fl[i]? = some w → w.before args s = true := fun h => hs _ (List.mem_of_getElem? h)
  have e1 : ([tx.length] : List Nat).getD 0 0 = tx.length := rfl
  have e2 : ([tx] : List (List Int32)).getD 0 [] = tx := rfl
  have z1 : ∀ i : Nat, i < 1 → i = 0 := fun i hi => by omega
  obtain ⟨adK, adV, hv, he⟩ := vk_Sof (args := args) (s := s) (N := 1) (tm := fun _ => .string own k) (len := [tx.length]) (byt := [tx]) (A := A) (fun i hi => by rw [z1 i hi, e1]; exact hN) (fun i hi => g h0) (fun i hi => g h1) (fun i hi => g h2) (fun i hi => by rw [z1 i hi, e1]; exact g h3) (fun i hi j hj => by rw [z1 i hi, e1] at hj; rw [z1 i hi, e2]; exact g (h4 j hj)) (fun i j hi hj hij => absurd ((z1 i hi).trans (z1 j hj).symm) hij) hA
  obtain ⟨o1, o2, o3, o4⟩ := hv.1 0 Nat.zero_lt_one
  exact ⟨adK 0, adV 0, ⟨o1, o2, o3, o4, hZ, hq⟩, he 0 Nat.zero_lt_one⟩
theorem arr_of {args : Array Value} {s : State} {t : FieldType} (h : (Cond.arrayClass t).before args s = true) : ∃ c, ArrOfT s c t ∧ s.vm.findClass ("[" ++ t.toString) = some c := by
  obtain ⟨c, k, cc, h1, h2, h3⟩ := Cond.arrayClass_spec h
  exact ⟨c, fun n z => ⟨fun k h => (by cases h), k, h2, cc, h3⟩, h1⟩
theorem arr_oo {args : Array Value} {s : State} {C : String} (h : (Cond.arrayOver (.object C)).before args s = true) : ∃ c, ArrOfT s c (.object C) ∧ va_RA s c (.object C) := by
  obtain ⟨comp, c, k, h1, -, h3, h4, h5⟩ := Cond.arrayOver_spec h
  exact ⟨c, fun n z => ⟨fun k h => (by cases h), k, h3, comp, h4⟩, k, comp, h3, h4, h1, h5⟩
theorem arr_ol {s : State} (h : cAOL s) : ∃ c, ArrOfT s c (.array .long) ∧ va_RA s c (.array .long) := by
  obtain ⟨comp, c, k, h1, h3, h4, h5⟩ := h
  exact ⟨c, fun n z => ⟨fun k h => (by cases h), k, h3, comp, h4⟩, h5⟩
