/-- a suit's line that is read moves the reader on -/
theorem rsA_adv {z : Nat} {u : mS} (h : PI z u) : EM u (rsA z u).2 ∧ (¬ u.1 3 = 2 → (rsA z u).1 = 0) := by
  unfold rsA
  by_cases c1 : u.1 3 = 2
  · rw [if_pos c1]
    refine ⟨?_, fun q => absurd c1 q⟩
    by_cases c2 : u.1 7 ≤ 5
    · rw [if_pos c2]
      by_cases c3 : u.2.1 13 (4 + sI (u.1 7)) = 0
      · rw [if_pos c3]
        exact Nat.le_trans (scn_adv (PI_row h 13 (4 + sI (u.1 7)) 1)).1 (EM_rsB (PI_scn (PI_row h 13 (4 + sI (u.1 7)) 1)))
      · rw [if_neg c3]; exact Nat.le_refl _
    · rw [if_neg c2]; exact Nat.le_refl _
  · rw [if_neg c1]
    exact ⟨Nat.le_refl _, fun _ => rfl⟩
theorem rs_adv {z : Nat} {v : mS} (h : PI z v) (hr : ¬ (spReadSuit z v).1 = 0) : sI (v.1 6) < sI ((spReadSuit z v).2.1 6) := by
  have ha := scn_adv h
  have hb := rsA_adv (PI_scn h)
  have c1 : (scn z v).1 3 = 2 := Decidable.not_not.mp (fun q => hr (hb.2 q))
  exact Nat.lt_of_lt_of_le (ha.2 (by rw [c1]; decide)) hb.1
