/-! laws: signs, runs -/
section REK
variable {z : Nat} {x x' : cS} {v v' : mS}
theorem byt_x {b : Int32} (h : byt b) : ∃ k, k < 256 ∧ b = nI k - 128 := by
  obtain ⟨h1, h2⟩ := h
  refine ⟨(b.toInt + 128).toNat, by omega, Int32.toInt_inj.mp ?_⟩
  rw [Int32.toInt_sub, nI_i (by omega)]
  have e : (128 : Int32).toInt = 128 := rfl
  rw [e]
  rw [Int.bmod_eq_of_le (by omega) (by omega)]
  omega
theorem sg_t : ∀ k, k < 256 → isBl ((nI k - 128) &&& 255) = (decide (nI k - 128 = 32) || decide (nI k - 128 = 10)) ∧ isSm ((nI k - 128) &&& 255) = (decide (97 ≤ nI k - 128) && decide (nI k - 128 ≤ 122)) ∧ isDg ((nI k - 128) &&& 255) = (decide (48 ≤ nI k - 128) && decide (nI k - 128 ≤ 57)) ∧ decide ((nI k - 128) &&& 255 = 59) = (decide (59 ≤ nI k - 128) && decide (nI k - 128 ≤ 59)) ∧ ¬ (nI k - 128) &&& 255 = -1 ∧ (isDg ((nI k - 128) &&& 255) = true → (nI k - 128) &&& 255 = nI k - 128) := by decide +kernel
theorem sg_c : ∀ k, k < 256 → ∀ c, c < 26 → decide (nI (97 + c) = (nI k - 128) &&& 255) = (decide (nI (97 + c) ≤ nI k - 128) && decide (nI k - 128 ≤ nI (97 + c))) := by decide +kernel
theorem q_bl (h : Q0 z x v) (i : Nat) : cBl x z i = isBl (mSee v z i) := by
  unfold cBl mSee
  by_cases hi : i < z
  · obtain ⟨e, hb⟩ := h.1 i (by have := h.2.1; omega)
    obtain ⟨k, hk, ek⟩ := byt_x hb
    rw [e, ek, if_pos hi, (sg_t k hk).1]; simp [hi]
  · rw [if_neg hi]; simp [hi]; rfl
theorem q_sm (h : Q0 z x v) (i : Nat) : cWi x z 97 122 i = isSm (mSee v z i) := by
  unfold cWi mSee
  by_cases hi : i < z
  · obtain ⟨e, hb⟩ := h.1 i (by have := h.2.1; omega)
    obtain ⟨k, hk, ek⟩ := byt_x hb
    rw [e, ek, if_pos hi, (sg_t k hk).2.1]; simp [hi]
  · rw [if_neg hi]; simp [hi]; rfl
theorem q_dg (h : Q0 z x v) (i : Nat) : cWi x z 48 57 i = isDg (mSee v z i) := by
  unfold cWi mSee
  by_cases hi : i < z
  · obtain ⟨e, hb⟩ := h.1 i (by have := h.2.1; omega)
    obtain ⟨k, hk, ek⟩ := byt_x hb
    rw [e, ek, if_pos hi, (sg_t k hk).2.2.1]; simp [hi]
  · rw [if_neg hi]; simp [hi]; rfl
theorem q_se (h : Q0 z x v) (i : Nat) : cWi x z 59 59 i = decide (mSee v z i = 59) := by
  unfold cWi mSee
  by_cases hi : i < z
  · obtain ⟨e, hb⟩ := h.1 i (by have := h.2.1; omega)
    obtain ⟨k, hk, ek⟩ := byt_x hb
    rw [e, ek, if_pos hi, (sg_t k hk).2.2.2.1]; simp [hi]
  · rw [if_neg hi]; simp [hi]
theorem q_ch (h : Q0 z x v) (i : Nat) {c : Nat} (hc : c < 26) : cWi x z (nI (97 + c)) (nI (97 + c)) i = decide (nI (97 + c) = mSee v z i) := by
  unfold cWi mSee
  by_cases hi : i < z
  · obtain ⟨e, hb⟩ := h.1 i (by have := h.2.1; omega)
    obtain ⟨k, hk, ek⟩ := byt_x hb
    rw [e, ek, if_pos hi, sg_c k hk c hc]; simp [hi]
  · rw [if_neg hi, decide_eq_false (nI_ne1 (by omega))]; simp [hi]
theorem q_m1 (h : Q0 z x v) (i : Nat) : mSee v z i = -1 ↔ z ≤ i := by
  unfold mSee
  by_cases hi : i < z
  · obtain ⟨e, hb⟩ := h.1 i (by have := h.2.1; omega)
    obtain ⟨k, hk, ek⟩ := byt_x hb
    rw [ek, if_pos hi]
    constructor
    · intro q; exact absurd q (sg_t k hk).2.2.2.2.1
    · intro q; omega
  · rw [if_neg hi]
    constructor
    · intro _; omega
    · intro _; rfl
theorem q_dv (h : Q0 z x v) (i : Nat) (hd : isDg (mSee v z i) = true) : mSee v z i = x.1 2 0 i := by
  unfold mSee at hd ⊢
  by_cases hi : i < z
  · obtain ⟨e, hb⟩ := h.1 i (by have := h.2.1; omega)
    obtain ⟨k, hk, ek⟩ := byt_x hb
    rw [if_pos hi] at hd ⊢
    rw [ek] at hd
    rw [e, ek]
    exact (sg_t k hk).2.2.2.2.2 hd
  · rw [if_neg hi] at hd; exact absurd hd (by decide)
theorem fstn_sp {p : Nat → Bool} : ∀ (n k j : Nat), k ≤ j → j < k + n → p j = true → k ≤ fstn p n k ∧ fstn p n k ≤ j ∧ p (fstn p n k) = true ∧ ∀ i, k ≤ i → i < fstn p n k → p i = false
  | 0, k, j, h1, h2, _ => by omega
  | n + 1, k, j, h1, h2, h3 => by
    rw [fstn]
    by_cases hp : p k = true
    · rw [if_pos hp]; exact ⟨Nat.le_refl _, h1, hp, fun i a b => by omega⟩
    · rw [if_neg hp]
      have hkj : ¬ k = j := fun q => hp (by rw [q]; exact h3)
      obtain ⟨a, b, c, d⟩ := fstn_sp n (k + 1) j (by omega) (by omega) h3
      refine ⟨by omega, b, c, fun i h4 h5 => ?_⟩
      by_cases hik : i = k
      · rw [hik]; exact Bool.eq_false_iff.mpr hp
      · exact d i (by omega) h5
theorem past_sp {f : Int32 → Bool} (hf : f (-1) = false) (hz : z ≤ 1000) {P : Nat} (hP : P ≤ z) : P ≤ pastOf f v z P ∧ pastOf f v z P ≤ z ∧ f (mSee v z (pastOf f v z P)) = false ∧ ∀ i, P ≤ i → i < pastOf f v z P → f (mSee v z i) = true := by
  obtain ⟨a, b, c, d⟩ := fstn_sp (p := fun i => !f (mSee v z i)) 1001 P z hP (by omega) (by rw [see_out (Nat.le_refl _), hf]; rfl)
  unfold pastOf
  refine ⟨a, b, by simpa using c, fun i h1 h2 => by simpa using d i h1 h2⟩
theorem q_run {f : Int32 → Bool} {lo hi : Int32} (hf : f (-1) = false) (h : Q0 z x v) (he : ∀ i, cWi x z lo hi i = f (mSee v z i)) {P : Nat} (hP : f (mSee v z P) = true) : eoR x z lo hi P = pastOf f v z (P + 1) ∧ P + 1 ≤ pastOf f v z (P + 1) ∧ pastOf f v z (P + 1) ≤ z ∧ ∀ i, P ≤ i → i < pastOf f v z (P + 1) → f (mSee v z i) = true := by
  have hPz : P < z := past_b hf hP
  obtain ⟨a, b, c, d⟩ := past_sp (v := v) hf h.2.1 (show P + 1 ≤ z by omega)
  have d' : ∀ i, P ≤ i → i < pastOf f v z (P + 1) → f (mSee v z i) = true := fun i h1 h2 => by
    by_cases hi : i = P
    · rw [hi]; exact hP
    · exact d i (by omega) h2
  refine ⟨?_, a, b, d'⟩
  unfold eoR
  have hz := h.2.1
  exact fstn_hit 1001 P _ (fun i h1 h2 => by rw [he, d' i h1 h2]; rfl) (by omega) (by omega) (by rw [he, c]; rfl)
theorem q_bls (h : Q0 z x v) : eoB x z (sI (x.1 3 0 8)) = scP v z (sI (v.1 6)) ∧ scP v z (sI (v.1 6)) ≤ 1000 := by
  have e := h.2.2.1.1
  have hn := h.2.2.1.2
  have hz := h.2.1
  rw [e]
  have e2 : eoB x z (sI (v.1 6)) = scP v z (sI (v.1 6)) := by
    unfold eoB scP pastOf
    exact fstn_congr 1001 _ (fun i _ _ => by rw [q_bl h])
  refine ⟨e2, ?_⟩
  unfold scP pastOf
  obtain ⟨a, b, -⟩ := fstn_sp (p := fun i => !isBl (mSee v z i)) 1001 (sI (v.1 6)) (max (sI (v.1 6)) z) (Nat.le_max_left _ _) (by have := hn.2; omega) (by rw [see_out (Nat.le_max_right _ _)]; rfl)
  have := hn.2
  omega
theorem q_wor (h : Q0 z x v) {P : Nat} : ∀ d, d < 5 → (∀ i, P ≤ i → i < P + 1 + d → isDg (mSee v z i) = true) → dgs x P (d + 1) = worF v z P d
  | 0, _, hd => by
    rw [dgs, dgs, worF, q_dv h P (hd P (Nat.le_refl _) (by omega))]
    simp
  | d + 1, h5, hd => by
    rw [dgs, q_wor h d (by omega) (fun i a b => hd i a (by omega)), worF, if_pos (by omega), q_dv h (P + 1 + d) (hd _ (by omega) (by omega)), show P + (d + 1) = P + 1 + d by omega, Int32.mul_comm]
end REK
