/-! calls that only answer: laws, citizens, courts -/
section RE1
variable {n T : Nat} {x : cS} {v : mS}
theorem le_toI {a b : Int32} : a ≤ b ↔ a.toInt ≤ b.toInt := Int32.le_iff_toInt_le
theorem nn_pos {z : Int32} {N : Nat} (h : nn z N) (hN : N < 2 ^ 31) : 0 ≤ z.toInt := by
  rw [h.1, nI_toInt (by have := h.2; omega)]; omega
/-- the text in force, both ways -/
def foOf : Option Nat → Nat
  | none => 1
  | some t => t + 2
theorem rel_fo (h : Rel n T x v) (day : Int32) : ∀ j, j ≤ T → cFo x day j = foOf (fB v day j)
  | 0, _ => rfl
  | j + 1, hj => by
    have ih := rel_fo h day j (by omega)
    obtain ⟨-, h2, h3, -⟩ := h.rl.2.2.2.1 j (by omega)
    rw [cFo, fB, ih, h2]
    by_cases h1 : v.2.1 11 j ≤ day
    · rw [if_pos h1]
      cases hb : fB v day j with
      | none =>
        have h5 : x.1 25 (foOf none) 1 ≤ v.2.1 11 j := by
          show x.1 25 1 1 ≤ _
          rw [h.rl.2.2.2.2.1, le_toI]
          have := nn_pos h3 (by omega)
          have e : (-1 : Int32).toInt = -1 := by decide
          rw [e]; omega
        rw [if_pos ⟨h1, h5⟩]; rfl
      | some b =>
        have hbj := fB_lt hb
        have h5 : x.1 25 (foOf (some b)) 1 = v.2.1 11 b := (h.rl.2.2.2.1 b (by omega)).2.1
        rw [h5]
        by_cases h6 : v.2.1 11 b ≤ v.2.1 11 j
        · rw [if_pos ⟨h1, h6⟩]; simp only [h6, if_true]; rfl
        · rw [if_neg (fun q => h6 q.2)]; simp only [h6, if_false]
    · rw [if_neg (fun q => h1 q.1), if_neg h1]
theorem rel_val (h : Rel n T x v) (day : Int32) {w : Nat} (hw : w < 51) : x.1 26 (cFo x day T) w = lwv (fun z => mLaw v day T z) (oI (fB v day T)) w := by
  rw [rel_fo h day T (Nat.le_refl _)]
  unfold mLaw
  cases hb : fB v day T with
  | none => exact h.rl.2.2.2.2.2 w hw
  | some b => exact (h.rl.2.2.2.1 b (fB_lt hb)).2.2.2.1 w hw
theorem inR_w9 {lo hi : Nat} {w : Int32} (hh : hi < 2 ^ 30) (h : inR lo hi w = true) : ∃ j, lo ≤ j ∧ j ≤ hi ∧ w = nI j := by
  have h1 := of_decide_eq_true h
  obtain ⟨j, hj, e⟩ := vp_in_of (x := w) (n := hi + 1) (vp_in_iff.mpr ⟨by omega, by omega⟩) (by omega)
  have := nI_toInt (n := j) (by omega)
  rw [e] at h1
  exact ⟨j, by omega, by omega, e⟩
theorem inR_nIf {lo hi j : Nat} (hj : j < 2 ^ 31) : inR lo hi (nI j) = decide (lo ≤ j ∧ j ≤ hi) := by
  unfold inR
  rw [nI_toInt hj]
  congr 1
  apply propext
  omega
theorem rel_law (h : Rel n T x v) (day w : Int32) : csLaw x T day w = spLaw T v day w := by
  have hd : (¬ day < 0 ∧ day ≤ 20000) ↔ inR 0 20000 day = true := by
    unfold inR
    rw [decide_eq_true_iff, Int32.not_lt, le_toI, le_toI]
    exact Iff.rfl
  unfold csLaw spLaw
  by_cases h1 : inR 0 20000 day = true
  · rw [if_pos (hd.mpr h1), if_pos h1]
    unfold cAns
    by_cases h2 : isC 51 w = true
    · obtain ⟨hw, ew⟩ := isC_x (n := 51) (by omega) h2
      rw [if_pos h2, rel_val h day hw]
      have r1 : ∀ lo hi : Nat, inR lo hi w = decide (lo ≤ sI w ∧ sI w ≤ hi) := fun lo hi => by
        have := inR_nIf (lo := lo) (hi := hi) (j := sI w) (by omega)
        rw [← ew] at this; exact this
      have e1 := r1 0 3
      have e2 := r1 10 15
      have e3 := r1 20 25
      have e4 := r1 30 35
      have e5 := r1 40 45
      have e6 : (w = 50) ↔ sI w = 50 := by
        constructor
        · intro q; rw [q]; rfl
        · intro q; rw [ew, q]; rfl

      rw [show inR 0 3 w = decide (0 ≤ sI w ∧ sI w ≤ 3) from e1, show inR 10 15 w = decide (10 ≤ sI w ∧ sI w ≤ 15) from e2, show inR 20 25 w = decide (20 ≤ sI w ∧ sI w ≤ 25) from e3, show inR 30 35 w = decide (30 ≤ sI w ∧ sI w ≤ 35) from e4, show inR 40 45 w = decide (40 ≤ sI w ∧ sI w ≤ 45) from e5]
      simp only [decide_eq_true_iff, e6]
      unfold lwv
      generalize sI w = j at hw
      by_cases c1 : j < 4
      · rw [if_pos c1, if_pos (by omega)]
      · rw [if_neg c1, if_neg (show ¬ (0 ≤ j ∧ j ≤ 3) by omega)]
        by_cases c2 : 10 ≤ j ∧ j < 16
        · rw [if_pos c2, if_pos (show 10 ≤ j ∧ j ≤ 15 by omega)]
        · rw [if_neg c2, if_neg (show ¬ (10 ≤ j ∧ j ≤ 15) by omega)]
          by_cases c3 : 20 ≤ j ∧ j < 26
          · rw [if_pos c3, if_pos (show 20 ≤ j ∧ j ≤ 25 by omega)]
          · rw [if_neg c3, if_neg (show ¬ (20 ≤ j ∧ j ≤ 25) by omega)]
            by_cases c4 : 30 ≤ j ∧ j < 36
            · rw [if_pos c4, if_pos (show 30 ≤ j ∧ j ≤ 35 by omega)]
            · rw [if_neg c4, if_neg (show ¬ (30 ≤ j ∧ j ≤ 35) by omega)]
              by_cases c5 : 40 ≤ j ∧ j < 46
              · rw [if_pos c5, if_pos (show 40 ≤ j ∧ j ≤ 45 by omega)]
              · rw [if_neg c5, if_neg (show ¬ (40 ≤ j ∧ j ≤ 45) by omega)]
    · rw [if_neg h2]
      have h3 : ∀ lo hi : Nat, hi < 51 → inR lo hi w = false := fun lo hi hh => by
        refine Bool.eq_false_iff.mpr (fun q => h2 ?_)
        obtain ⟨j, -, j2, e⟩ := inR_w9 (by omega) q
        exact (inR_c (by omega)).mpr ⟨j, by omega, e⟩
      rw [show inR 0 3 w = false from h3 0 3 (by omega), show inR 10 15 w = false from h3 10 15 (by omega), show inR 20 25 w = false from h3 20 25 (by omega), show inR 30 35 w = false from h3 30 35 (by omega), show inR 40 45 w = false from h3 40 45 (by omega)]
      rw [if_neg Bool.false_ne_true, if_neg Bool.false_ne_true, if_neg Bool.false_ne_true, if_neg Bool.false_ne_true, if_neg Bool.false_ne_true, if_neg]
      intro q
      rw [q] at h2
      exact h2 ((inR_c (by omega)).mpr ⟨50, by omega, rfl⟩)
  · rw [if_neg (fun q => h1 (hd.mp q)), if_neg h1]
theorem lwv_k (f : Nat → Int32) (tx : Int32) : ∀ k, k < 6 → lwv f tx (10 + k) = f (4 + k) ∧ lwv f tx (20 + k) = f (10 + k) ∧ lwv f tx (30 + k) = f (16 + k) ∧ lwv f tx (40 + k) = f (22 + k) := by
  intro k hk
  unfold lwv
  refine ⟨?_, ?_, ?_, ?_⟩
  · rw [if_neg (by omega), if_pos (by omega)]; congr 1; omega
  · rw [if_neg (by omega), if_neg (by omega), if_pos (by omega)]; congr 1; omega
  · rw [if_neg (by omega), if_neg (by omega), if_neg (by omega), if_pos (by omega)]; congr 1; omega
  · rw [if_neg (by omega), if_neg (by omega), if_neg (by omega), if_neg (by omega), if_pos (by omega)]; congr 1; omega
theorem rel_sit (h : Rel n T x v) {c : Nat} (hc : c < n) : cSit x T c = mSit v T c := by
  obtain ⟨-, -, -, -, -, -, h3, h4, h5, -⟩ := h.rc.1 c hc
  unfold cSit mSit
  rw [h4, h5, h3, h.rs.2.2.2.1, rel_val h _ (by omega)]
  rfl
theorem rel_about (h : Rel n T x v) (t w : Int32) : csAbout x n T t w = spAbout n T v t w := by
  unfold csAbout spAbout
  by_cases h1 : isC n t = true
  · obtain ⟨hc, -⟩ := isC_x h.rs.2.2.1 h1
    obtain ⟨-, -, g1, -, g2, -, g3, g4, g5, -, g6, g7, g8, g9, -⟩ := h.rc.1 _ hc
    rw [if_pos h1, if_pos h1, g1, g2, g3, g4, g5, g6, g7, g8, g9, rel_sit h hc]
  · rw [if_neg h1, if_neg h1]
theorem cnt_ct (h : Rel n T x v) {k : Nat} (hk : k < 5) {N : Nat} (hN : N ≤ 25) (z : Int32) (P : Nat → Bool) (hP : ∀ i, i < N → P i = dIs v z (25 * k + i)) : cnt P N = mDiscs v k z N := cnt_congr hP
theorem rel_ct (h : Rel n T x v) {k i : Nat} (hk : k < 5) (hi : i < 25) : cCt x k i = dIs v 0 (25 * k + i) ∧ cCv x k i = dIs v 1 (25 * k + i) ∧ cWt x k i = dIs v 2 (25 * k + i) ∧ cSk x k i = dIs v 3 (25 * k + i) := by
  obtain ⟨h1, h2⟩ := (h.rk k hk).2.2.1 i hi
  unfold cCv cCt cWt cSk dIs dCnt
  rw [h1, h2]
  refine ⟨?_, ?_, ?_, ?_⟩
  · rw [if_pos rfl, Bool.and_comm]
  · rw [if_neg (by decide), if_pos rfl, Bool.and_comm (decide (v.2.1 35 (25 * k + i) = 0))]
  · rw [if_neg (by decide), if_neg (by decide), if_pos rfl]
  · rw [if_neg (by decide), if_neg (by decide), if_neg (by decide)]
end RE1
