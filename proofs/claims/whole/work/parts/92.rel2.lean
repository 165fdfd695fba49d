/-! courts' answers, rows; small calls -/
section RE2
variable {n T : Nat} {x : cS} {v : mS}
theorem rel_court (h : Rel n T x v) (k w : Int32) : csCourt x (fun k => sI (x.1 20 k 5)) k w = spCourt (fun k => sI (v.2.1 32 k)) v k w := by
  unfold csCourt spCourt
  by_cases hk : isK k = true
  · obtain ⟨hk5, -⟩ := isC_x (n := 5) (by omega) hk
    rw [if_pos hk, if_pos hk]
    obtain ⟨⟨a1, -, a3, a4, -⟩, -, -, ⟨d1, d2, -⟩, ⟨e1, e2, e3, e4, e5, e6, -, -⟩, ⟨f1, f2, f3⟩, g1, -⟩ := h.rk (sI k) hk5
    rw [a1, a3, d2]
    unfold cSA
    rw [d1, d2, e1, e2, e3, e4, e5, e6, f1, f2, f3]
    by_cases h37 : v.2.1 37 (sI k) = 0
    · simp only [h37, if_true]
    · obtain ⟨q1, -⟩ := g1 h37
      have hN := a4.2
      have e5 : sI (x.1 20 (sI k) 5) = sI (v.2.1 32 (sI k)) := by rw [q1]
      have c0 : cnt (cCt x (sI k)) (sI (v.2.1 32 (sI k))) = mDiscs v (sI k) 0 (sI (v.2.1 32 (sI k))) := cnt_congr (fun i hi => (rel_ct h hk5 (by omega)).1)
      have c1 : cnt (cCv x (sI k)) (sI (v.2.1 32 (sI k))) = mDiscs v (sI k) 1 (sI (v.2.1 32 (sI k))) := cnt_congr (fun i hi => (rel_ct h hk5 (by omega)).2.1)
      have c2 : cnt (cWt x (sI k)) (sI (v.2.1 32 (sI k))) = mDiscs v (sI k) 2 (sI (v.2.1 32 (sI k))) := cnt_congr (fun i hi => (rel_ct h hk5 (by omega)).2.2.1)
      have c3 : cnt (cSk x (sI k)) (sI (v.2.1 32 (sI k))) = mDiscs v (sI k) 3 (sI (v.2.1 32 (sI k))) := cnt_congr (fun i hi => (rel_ct h hk5 (by omega)).2.2.2)
      simp only [e5, c0, c1, c2, c3, Nat.add_zero]
  · rw [if_neg hk, if_neg hk]
/-- the columns' numbers -/
def coX (x : cS) (j : Nat) : Nat := sI (x.1 11 0 j)
theorem rel_co (h : Rel n T x v) {t w : Nat} (ht : t < 10) (hw : w < 5) : x.1 11 0 (5 * t + w) = nI (coX x (5 * t + w)) ∧ coX x (5 * t + w) = cnt (mColP v (nI t) (nI w)) n ∧ coX x (5 * t + w) ≤ 150 := by
  have h1 := h.rd.2.2.2.1 t ht w hw
  have h2 := cnt_le (mColP v (nI t) (nI w)) n
  have h3 := h.rs.2.2.1
  have e : coX x (5 * t + w) = cnt (mColP v (nI t) (nI w)) n := by rw [coX, h1]; exact sI_nI (by omega)
  exact ⟨by rw [e]; exact h1, e, by rw [e]; omega⟩
theorem rel_coj (h : Rel n T x v) {j : Nat} (hj : j < 50) : x.1 11 0 j = nI (coX x j) ∧ coX x j ≤ 150 := by
  have e : j = 5 * (j / 5) + j % 5 := by omega
  rw [e]
  obtain ⟨a, -, b⟩ := rel_co h (t := j / 5) (w := j % 5) (by omega) (by omega)
  exact ⟨a, b⟩
theorem rel_rows (h : Rel n T x v) {t : Nat} (ht : t < 10) : cMn (coX x) t 5 = mRows v (nI t) n := by
  have c0 := rel_co h ht (w := 0) (by omega)
  have h0 := c0.2.2
  unfold mRows
  simp only [cMn, mMin, c0.2.1, (rel_co h ht (w := 1) (by omega)).2.1, (rel_co h ht (w := 2) (by omega)).2.1, (rel_co h ht (w := 3) (by omega)).2.1, (rel_co h ht (w := 4) (by omega)).2.1]
  rw [c0.2.1] at h0
  have e0 : mColP v (nI t) (nI 0) = mColP v (nI t) 0 := rfl
  rw [e0] at h0 ⊢
  have hz : (if cnt (mColP v (nI t) 0) n < 150 then cnt (mColP v (nI t) 0) n else 150) = cnt (mColP v (nI t) 0) n := by
    split
    · rfl
    · omega
  rw [hz]
  rfl
theorem rel_30 (h : Rel n T x v) {t : Nat} (ht : t < 10) : cMn (coX x) t 5 ≤ 30 := by
  rw [rel_rows h ht]
  have h1 := mRows_le v (nI t) n
  have h2 := h.rs.2.2.1
  omega
theorem isT_x {t : Int32} (h : isT t = true) : sI t < 10 ∧ t = nI (sI t) := isC_x (n := 10) (by omega) h
theorem rel_rowsC (h : Rel n T x v) (t : Int32) : csRows (coX x) t = spRows n v t := by
  unfold csRows spRows
  by_cases h1 : isT t = true
  · obtain ⟨a, b⟩ := isT_x h1
    rw [if_pos h1, if_pos h1, rel_rows h a, ← b]
  · rw [if_neg h1, if_neg h1]
theorem inR_N (N : Nat) (w : Int32) : isC (N + 1) w = inR 0 (N : Int) w := by
  show inR 0 (((N + 1 : Nat) : Int) - 1) w = _
  congr 1
  omega
theorem rel_can (h : Rel n T x v) (t w : Int32) : cCan (coX x) t w = (isT t && inR 0 (mRows v t n) w) := by
  unfold cCan
  by_cases h1 : isT t = true
  · obtain ⟨a, b⟩ := isT_x h1
    rw [h1, rel_rows h a, ← b, inR_N]
  · rw [Bool.eq_false_iff.mpr h1]; rfl
theorem rel_draws (h : Rel n T x v) (t w : Int32) : csDraws (coX x) t w = spDraws n v t w := by
  unfold csDraws spDraws
  rw [rel_can h]
  by_cases h1 : (isT t && inR 0 (mRows v t n) w) = true
  · rw [if_pos h1, if_pos h1]
    obtain ⟨a1, a2⟩ := Bool.and_eq_true_iff.mp h1
    obtain ⟨a, b⟩ := isT_x a1
    have h2 := mRows_le v t n
    have h3 := h.rs.2.2.1
    rw [← inR_N] at a2
    obtain ⟨c, d⟩ := isC_x (by omega) a2
    rw [rel_rows h a, ← b, h.rw _ _ (by omega) (by omega)]
  · rw [if_neg h1, if_neg h1]
theorem rel_chances (h : Rel n T x v) (t w : Int32) : csChances x n (coX x) (fun c => sI (v.2.1 16 c)) t w = spChances n v t w := by
  unfold csChances spChances
  by_cases h0 : isC n t = true
  · obtain ⟨hc, -⟩ := isC_x h.rs.2.2.1 h0
    obtain ⟨-, -, g1, g2, -, -, -, -, -, -, -, g7, -, -, g15, -⟩ := h.rc.1 _ hc
    have ht : isT (v.2.1 16 (sI t)) = true := (inR_k 10 (hi := 9) rfl (by omega)).mpr ⟨_, by have := g2.2; omega, g2.1⟩
    rw [g1, g7, rel_can h, ht, h0]
    simp only [Bool.true_and]
    by_cases h1 : inR 0 (mRows v (v.2.1 16 (sI t)) n) w = true
    · rw [if_pos h1, if_pos h1]
      have h2 := mRows_le v (v.2.1 16 (sI t)) n
      have h3 := h.rs.2.2.1
      have e1 : cMn (coX x) (sI (v.2.1 16 (sI t))) 5 = mRows v (v.2.1 16 (sI t)) n := by
        rw [rel_rows h (by have := g2.2; omega), ← g2.1]
      rw [e1]
      by_cases h4 : v.2.1 22 (sI t) = -1
      · rw [if_pos h4, if_pos h4]
      · rw [if_neg h4, if_neg h4]
        have hp : nn (v.2.1 22 (sI t)) 149 := g15.resolve_left h4
        rw [← inR_N] at h1
        obtain ⟨c, d⟩ := isC_x (by omega) h1
        by_cases h5 : v.2.1 22 (sI t) < nI (mRows v (v.2.1 16 (sI t)) n)
        · rw [if_pos h5]
          have h6 : sI (v.2.1 22 (sI t)) < mRows v (v.2.1 16 (sI t)) n := by
            rw [hp.1] at h5
            exact (nI_ltI (by have := hp.2; omega) (by omega)).mp h5
          by_cases hw0 : w = 0
          · rw [if_pos (Or.inr hw0), hw0]
            show wtc _ (-1) = 0
            rw [wtc, if_neg (by rw [isC_neg (by omega) (by decide)]; decide)]
          · rw [if_neg (by rintro (q | q); exact Int32.not_le.mpr h5 q; exact hw0 q)]
            have hw1 : 1 ≤ sI w := by
              rcases Nat.eq_zero_or_pos (sI w) with q | q
              · exact absurd (by rw [d, q]; rfl) hw0
              · exact q
            rw [show w - 1 = nI (sI w - 1) by rw [d, sI_nI (by omega)]; exact pk_sub (b := 1) hw1, wtc_nI (by omega) (by omega), h.rw _ _ (by omega) (by omega)]
        · rw [if_neg h5, if_pos (Or.inl (Int32.not_lt.mp h5))]
    · rw [if_neg h1, if_neg h1]
  · rw [if_neg (by rw [Bool.eq_false_iff.mpr h0]; simp), if_neg (by rw [Bool.eq_false_iff.mpr h0]; simp)]
end RE2
