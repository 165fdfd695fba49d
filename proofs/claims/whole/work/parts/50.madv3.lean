/-! the reference: a line that is read moves the reader on -/
theorem rlE_f {z : Nat} {x : Int32 × mS} (h : PI z x.2) : PI z (rlE z x).2 ∧ EM x.2 (rlE z x).2 ∧ (¬ (rlE z x).1 = 0 → ¬ x.1 = 0 ∧ ∃ u, PI z u ∧ (rlE z x).2 = scn z u) := by
  unfold rlE bnd
  by_cases c0 : x.1 = 0
  · rw [if_pos c0]
    exact ⟨h, Nat.le_refl _, fun q => absurd rfl q⟩
  · rw [if_neg c0]
    dsimp only
    by_cases c1 : x.2.1 3 = 3
    · rw [if_pos c1]
      exact ⟨PI_scn h, (scn_adv h).1, fun _ => ⟨c0, x.2, h, rfl⟩⟩
    · rw [if_neg c1]
      exact ⟨PI_wrg h 1, Nat.le_refl _, fun q => absurd rfl q⟩
theorem num_0 {z : Nat} {v : mS} {w : Nat} (h : ¬ (spNumber z v w).1 = 0) : v.1 3 = 2 := by
  unfold spNumber at h
  by_cases c : v.1 3 = 2
  · exact c
  · rw [if_neg c] at h; exact absurd rfl h
theorem rl_adv {z : Nat} {v : mS} (h : PI z v) : PI z (spReadLine z v).2 ∧ (¬ (spReadLine z v).1 = 0 → sI (v.1 6) < sI ((spReadLine z v).2.1 6) ∧ ∃ u, PI z u ∧ (spReadLine z v).2 = scn z u) := by
  unfold spReadLine
  by_cases c0 : v.1 3 = 1 ∧ v.1 4 ≤ 4
  · rw [if_pos c0]
    by_cases c1 : v.1 4 = 4
    · rw [if_pos c1]
      have hE := rlE_f (x := spReadSuit z v) (PI_rs h)
      refine ⟨hE.1, fun hr => ?_⟩
      obtain ⟨h1, h2⟩ := hE.2.2 hr
      exact ⟨Nat.lt_of_lt_of_le (rs_adv h h1) hE.2.1, h2⟩
    · rw [if_neg c1]
      by_cases c2 : v.2.1 13 (sI (v.1 4)) = 0
      · rw [if_pos c2]
        have hb := PI_scn (PI_row h 13 (sI (v.1 4)) 1)
        have ha := scn_adv (PI_row h 13 (sI (v.1 4)) 1)
        generalize scn z (mrU v 13 (sI (v.1 4)) 1) = vb at hb ha ⊢
        by_cases c3 : v.1 4 = 3
        · rw [if_pos c3]
          unfold rlT
          by_cases c4 : vb.1 3 = 1 ∧ (vb.1 4 = 5 ∨ vb.1 4 = 6)
          · rw [if_pos c4]
            have hd := PI_scn (PI_row hb 10 423 (if vb.1 4 = 6 then 1 else 0))
            have hd2 := (scn_adv (PI_row hb 10 423 (if vb.1 4 = 6 then 1 else 0))).1
            have hE := rlE_f (x := (1, scn z (mrU vb 10 423 (if vb.1 4 = 6 then 1 else 0)))) hd
            refine ⟨hE.1, fun hr => ?_⟩
            exact ⟨Nat.lt_of_lt_of_le (ha.2 (by rw [c4.1]; decide)) (Nat.le_trans hd2 hE.2.1), (hE.2.2 hr).2⟩
          · rw [if_neg c4]
            exact ⟨PI_wrg hb 1, fun q => absurd rfl q⟩
        · rw [if_neg c3]
          have hE := rlE_f (x := spNumber z vb (sI (v.1 4))) (PI_n2 _ hb)
          refine ⟨hE.1, fun hr => ?_⟩
          obtain ⟨h1, h2⟩ := hE.2.2 hr
          exact ⟨Nat.lt_of_lt_of_le (ha.2 (by rw [num_0 h1]; decide)) (Nat.le_trans (EM_num _ hb) hE.2.1), h2⟩
      · rw [if_neg c2]
        exact ⟨PI_wrg h 3, fun q => absurd rfl q⟩
  · rw [if_neg c0]
    exact ⟨PI_wrg h 1, fun q => absurd rfl q⟩
