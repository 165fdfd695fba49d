/-! bribed -/
section REH
variable {n T : Nat} {x x' : cS} {v v' : mS}
def gN (W : Nat → Nat → Nat) (z w n : Nat) : Nat → Nat
  | 0 => 0
  | k + 1 => gN W z w n k + oth z w k * W k n
theorem gN_c {W W' : Nat → Nat → Nat} {z w n n' : Nat} : ∀ K, (∀ k, k < K → W k n = W' k n') → gN W z w n K = gN W' z w n' K
  | 0, _ => rfl
  | K + 1, h => by rw [gN, gN, gN_c K (fun k hk => h k (by omega)), h K (by omega)]
theorem gN_0 {W : Nat → Nat → Nat} {z w n : Nat} : ∀ K, (∀ k, k < K → W k n = 0) → gN W z w n K = 0
  | 0, _ => rfl
  | K + 1, h => by rw [gN, gN_0 K (fun k hk => h k (by omega)), h K (by omega)]; simp
theorem oth_s (z w k : Nat) : oth (z + 1) w k = oth z w k + (if 0 < w then oth z (w - 1) k else 0) := by
  unfold oth
  by_cases h1 : k ≤ w
  · rw [if_pos h1, if_pos h1]
    by_cases h2 : k = w
    · subst h2
      rw [Nat.sub_self, ch_0, ch_0]
      split
      · rw [if_neg (by omega)]
      · rfl
    · rw [if_pos (show 0 < w by omega), if_pos (show k ≤ w - 1 by omega)]
      have := ch_ss z (w - k - 1)
      rw [show w - k - 1 + 1 = w - k by omega] at this
      rw [this, show w - 1 - k = w - k - 1 by omega]; omega
  · rw [if_neg h1, if_neg h1]
    split
    · rw [if_neg (by omega)]
    · rfl
theorem oth_t (z w k : Nat) : oth z w (k + 1) = if 0 < w then oth z (w - 1) k else 0 := by
  unfold oth
  by_cases h : 0 < w
  · rw [if_pos h]
    by_cases h1 : k + 1 ≤ w
    · rw [if_pos h1, if_pos (by omega), show w - (k + 1) = w - 1 - k by omega]
    · rw [if_neg h1, if_neg (by omega)]
  · rw [if_neg h, if_neg (by omega)]
theorem gN_z (W : Nat → Nat → Nat) (z w n : Nat) : ∀ K, gN W (z + 1) w n K = gN W z w n K + (if 0 < w then gN W z (w - 1) n K else 0)
  | 0 => by simp [gN]
  | K + 1 => by
    rw [gN, gN, gN, gN_z W z w n K, oth_s]
    by_cases h : 0 < w
    · rw [if_pos h, if_pos h, if_pos h, Nat.add_mul]; omega
    · rw [if_neg h, if_neg h, if_neg h]; simp
theorem gN_b (bs : Nat → Nat) (r z w n : Nat) (hb : ¬ bs r = 0) : ∀ K, gN (cz bs (r + 1)) z w n (K + 1) = gN (cz bs r) z w n (K + 1) + (if 0 < w ∧ bs r ≤ n then gN (cz bs r) z (w - 1) (n - bs r) K else 0)
  | 0 => by
    simp only [gN, cz, if_neg hb]
    simp
  | K + 1 => by
    rw [gN, gN_b bs r z w n hb K, gN, gN]
    have e : cz bs (r + 1) (K + 1) n = cz bs r (K + 1) n + (if bs r ≤ n then cz bs r K (n - bs r) else 0) := by
      rw [cz, if_neg hb]
      simp
    have e2 : gN (cz bs r) z w n (K + 1) = gN (cz bs r) z w n K + oth z w K * cz bs r K n := rfl
    rw [e, oth_t, e2]
    by_cases h1 : 0 < w
    · by_cases h2 : bs r ≤ n
      · rw [if_pos h1, if_pos h2, if_pos ⟨h1, h2⟩, if_pos ⟨h1, h2⟩, gN, Nat.mul_add]; omega
      · rw [if_pos h1, if_neg h2, if_neg (fun q => h2 q.2), if_neg (fun q => h2 q.2)]; simp
    · have n1 : ¬ (0 < w ∧ bs r ≤ n) := fun q => h1 q.1
      rw [if_neg h1, if_neg n1, if_neg n1]; simp
theorem cf_gN (bs : Nat → Nat) : ∀ r w n K, nzr bs r < K → cf bs r w n = gN (cz bs r) (r - nzr bs r) w n K
  | 0, w, n, K, h => by
    have : ∀ K, gN (cz bs 0) 0 w n (K + 1) = if w = 0 ∧ n = 0 then 1 else 0 := fun K => by
      induction K with
      | zero =>
        rw [gN, gN, cz, oth, if_pos (Nat.zero_le _), Nat.sub_zero]
        by_cases hw : w = 0
        · rw [hw, ch_0]; simp
        · rw [ch_lt (by omega)]; simp [hw]
      | succ K ih =>
        rw [gN, ih, cz, if_neg (show ¬ (K + 1 = 0 ∧ n = 0) by omega)]; simp
    rw [show K = K - 1 + 1 by omega, cf]
    exact (this (K - 1)).symm
  | r + 1, w, n, K, h => by
    have hle := nzr_le bs r
    rw [cf]
    by_cases hb : bs r = 0
    · rw [nzr_z hb] at h ⊢
      have e : cz bs (r + 1) = cz bs r := by funext k n9; rw [cz, if_pos hb]
      rw [e, show r + 1 - nzr bs r = r - nzr bs r + 1 by omega, gN_z, ← cf_gN bs r w n K h, hb]
      by_cases h1 : 0 < w
      · rw [if_pos h1, if_pos ⟨h1, Nat.zero_le _⟩, Nat.sub_zero, cf_gN bs r (w - 1) n K h]
      · rw [if_neg h1, if_neg (fun q => h1 q.1)]
    · rw [nzr_s hb] at h ⊢
      rw [show K = K - 1 + 1 by omega, gN_b bs r _ w n hb (K - 1), show r + 1 - (nzr bs r + 1) = r - nzr bs r by omega, ← cf_gN bs r w n (K - 1 + 1) (by omega)]
      by_cases h1 : 0 < w ∧ bs r ≤ n
      · rw [if_pos h1, if_pos h1, cf_gN bs r (w - 1) (n - bs r) (K - 1) (by omega)]
      · rw [if_neg h1, if_neg h1]
theorem cz_st (bs : Nat → Nat) {m : Nat} (h : ∀ r, m ≤ r → bs r = 0) : ∀ d, cz bs (m + d) = cz bs m ∧ nzr bs (m + d) = nzr bs m
  | 0 => ⟨rfl, rfl⟩
  | d + 1 => by
    obtain ⟨h1, h2⟩ := cz_st bs h d
    have hb := h (m + d) (by omega)
    refine ⟨?_, by rw [← Nat.add_assoc, nzr_z hb, h2]⟩
    rw [← h1]
    funext k n9
    rw [← Nat.add_assoc, cz, if_pos hb]
theorem smF_a (f g : Nat → Nat) (m : Nat) : ∀ d, smF (fun n => f n + g n) m d = smF f m d + smF g m d
  | 0 => rfl
  | d + 1 => by rw [smF, smF, smF, smF_a f g m d]; omega
theorem smF_m (a : Nat) (f : Nat → Nat) (m : Nat) : ∀ d, smF (fun n => a * f n) m d = a * smF f m d
  | 0 => rfl
  | d + 1 => by rw [smF, smF, smF_m a f m d, Nat.mul_add]
theorem smF_0 (m : Nat) : ∀ d, smF (fun _ => 0) m d = 0
  | 0 => rfl
  | d + 1 => by rw [smF, smF_0 m d]
theorem gS_g (W : Nat → Nat → Nat) (z w m : Nat) : ∀ K, smF (fun n => gN W z w n K) m (61 - m) = gS W z w m K
  | 0 => smF_0 m _
  | K + 1 => by
    rw [gS, ← gS_g W z w m K, ← smF_m, ← smF_a]; rfl
theorem bbr_0 {N R : Nat} (h : N / 2 ^ (5 * min R 12) = 0) : ∀ r, R ≤ r → bbr N r = 0 := fun r hr => by
  unfold bbr
  by_cases h1 : r < 12
  · rw [if_pos h1]
    have hN : N < 2 ^ (5 * min R 12) := (Nat.div_eq_zero_iff.mp h).resolve_left (by have := Nat.pow_pos (a := 2) (n := 5 * min R 12) (by omega); omega)
    have hz : ∀ l, N / 2 ^ (5 * r + l) = 0 := fun l => Nat.div_eq_of_lt (Nat.lt_of_lt_of_le hN (Nat.pow_le_pow_right (by omega) (by omega)))
    simp only [bsm, hz]
  · rw [if_neg h1]
theorem bribed_id {N R w m : Nat} (h : N / 2 ^ (5 * min R 12) = 0) : smF (cf (bbr N) R w) m (61 - m) = gS (cz (bbr N) 12) (R - nzr (bbr N) 12) w m (nzr (bbr N) 12 + 1) := by
  have e : cz (bbr N) R = cz (bbr N) 12 ∧ nzr (bbr N) R = nzr (bbr N) 12 := by
    rcases Nat.le_total 12 R with q | q
    · have := cz_st (bbr N) (m := 12) (fun r hr => by unfold bbr; rw [if_neg (by omega)]) (R - 12)
      rw [show 12 + (R - 12) = R by omega] at this
      exact this
    · have := cz_st (bbr N) (m := R) (bbr_0 h) (12 - R)
      rw [show R + (12 - R) = 12 by omega] at this
      exact ⟨this.1.symm, this.2.symm⟩
  rw [← gS_g, ← e.1, ← e.2]
  congr 1
  funext n9
  exact cf_gN (bbr N) R w n9 _ (Nat.lt_succ_self _)
theorem rel_bribed (h : Rel n T x v) (t w : Int32) (bits : Int64) (m9 : Int32) : csBribed (coX x) t w bits m9 = spBribed n v t w bits m9 := by
  unfold csBribed spBribed okBr
  rw [rel_can h]
  by_cases h1 : isT t = true
  · obtain ⟨a, b⟩ := isT_x h1
    rw [rel_rows h a, ← b, Bool.and_assoc]
    by_cases h2 : (isT t && (inR 0 (mRows v t n) w && (decide (0 ≤ m9) && decide (uNat bits / 2 ^ (5 * min (mRows v t n) 12) = 0)))) = true
    · rw [if_pos h2, if_pos h2]
      simp only [Bool.and_eq_true_iff, decide_eq_true_iff] at h2
      rw [bribed_id h2.2.2.2]
    · rw [if_neg h2, if_neg h2]
  · rw [Bool.eq_false_iff.mpr h1]; rfl
end REH
