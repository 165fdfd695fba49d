/-! the reference: what a number read is worth -/
theorem dg_val {c : Int32} (h : isDg c = true) : ∃ d, d ≤ 9 ∧ c = nI (48 + d) := by
  have h1 := of_decide_eq_true h
  have h2 := Int32.le_iff_toInt_le.mp h1.1
  have h3 := Int32.le_iff_toInt_le.mp h1.2
  have h4 : (48 : Int32).toInt = 48 := by decide
  have h5 : (57 : Int32).toInt = 57 := by decide
  obtain ⟨m, hm, e⟩ := vp_in_of (x := c) (n := 58) (vp_in_iff.mpr ⟨by omega, by omega⟩) (by decide)
  have h6 := nI_toInt (n := m) (by omega)
  rw [← e] at h6
  exact ⟨m - 48, by omega, by rw [e]; congr 1; omega⟩
theorem dg_48 (d : Nat) : nI (48 + d) - 48 = nI d := by
  rw [show (48 : Int32) = nI 48 from rfl, pk_sub (by omega)]; congr 1; omega
theorem worF_b {v : mS} {z p : Nat} (h0 : isDg (mSee v z p) = true) : ∀ d, (∀ i, p + 1 ≤ i → i < p + 1 + d → isDg (mSee v z i) = true) → ∃ w, w < 10 ^ (min (d + 1) 5) ∧ worF v z p d = nI w
  | 0, _ => by
    obtain ⟨d, hd, e⟩ := dg_val h0
    exact ⟨d, by simp; omega, by rw [worF, e, dg_48]⟩
  | j + 1, h => by
    obtain ⟨w, hw, e⟩ := worF_b h0 j (fun i a b => h i a (by omega))
    rw [worF]
    split
    · rename_i hj
      obtain ⟨d, hd, ed⟩ := dg_val (h (p + 1 + j) (by omega) (by omega))
      refine ⟨10 * w + d, ?_, ?_⟩
      · rw [show min (j + 1) 5 = j + 1 by omega] at hw
        rw [show min (j + 1 + 1) 5 = j + 1 + 1 by omega, Nat.pow_succ]
        omega
      · rw [e, ed, show (10 : Int32) = nI 10 from rfl, pk_mul, nI_add, show (48 : Int32) = nI 48 from rfl, pk_sub (by omega)]
        congr 1; omega
    · rename_i hj
      exact ⟨w, by rw [show min (j + 1 + 1) 5 = min (j + 1) 5 by omega]; exact hw, e⟩
theorem past_all {f : Int32 → Bool} {v : mS} {z p : Nat} (hf : f (-1) = false) (hz : z ≤ 1000) : p ≤ pastOf f v z p ∧ ∀ i, p ≤ i → i < pastOf f v z p → f (mSee v z i) = true := by
  obtain ⟨k, ⟨hk1, hk2⟩, hk3⟩ := pk_least (fun k => p ≤ k ∧ f (mSee v z k) = false) ⟨max p z, by omega, by rw [see_out (by omega), hf]⟩
  have h0 : ∀ i, p ≤ i → i < k → f (mSee v z i) = true := fun i a b => by
    cases e : f (mSee v z i) with
    | true => rfl
    | false => exact absurd ⟨a, e⟩ (hk3 i b)
  rw [past_hit hf hz hk1 h0 hk2]
  exact ⟨hk1, h0⟩
/-- behind scan(), with a number: its worth is below 100000 -/
theorem scn_worth {z : Nat} {v : mS} (hI : PI z v) (h : (scn z v).1 3 = 2) : ∃ w, w < 100000 ∧ (scn z v).1 7 = nI w := by
  obtain ⟨h1, h2, h3, h4⟩ := hI
  unfold scn spScan at h ⊢
  generalize scP v z (sI (v.1 6)) = P at h ⊢
  unfold scS at h ⊢
  split
  · rename_i a; rw [if_pos a] at h; exact absurd (show (4 : Int32) = 2 from h) (by decide)
  · rename_i a
    rw [if_neg a] at h
    split
    · rename_i b; rw [if_pos b] at h
      have h9 : (if mKey v z P (pastOf isSm v z (P + 1) - P) = -1 then (0 : Int32) else 1) = 2 := h
      split at h9
      · exact absurd h9 (by decide)
      · exact absurd h9 (by decide)
    · rename_i b
      rw [if_neg b] at h
      split
      · rename_i c
        have hp := past_all (f := isDg) (v := v) (p := P + 1) (by decide) h4
        obtain ⟨w, hw, e⟩ := worF_b (v := v) (z := z) (p := P) c (pastOf isDg v z (P + 1) - (P + 1)) (fun i a1 b1 => hp.2 i a1 (by omega))
        refine ⟨w, Nat.lt_of_lt_of_le hw ?_, e⟩
        exact Nat.le_trans (Nat.pow_le_pow_right (by decide) (Nat.min_le_right _ 5)) (by decide)
      · rename_i c; rw [if_neg c] at h
        have h9 : (if mSee v z P = 59 then (3 : Int32) else 0) = 2 := h
        split at h9
        · exact absurd h9 (by decide)
        · exact absurd h9 (by decide)
