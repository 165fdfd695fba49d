/-! calls that change a court -/
section RE4
variable {n T : Nat} {x x' : cS} {v v' : mS}
theorem anyn_congr {p q : Nat → Bool} : ∀ {n : Nat}, (∀ i, i < n → p i = q i) → anyn p n = anyn q n
  | 0, _ => rfl
  | n + 1, h => by rw [anyn, anyn, anyn_congr (fun i hi => h i (by omega)), h n (by omega)]
theorem RK1_ext {k : Nat} (h : RK1 n x v k) (h1 : ∀ κ, 18 ≤ κ → κ ≤ 23 → ∀ s, x'.1 κ k s = x.1 κ k s) (hv : ∀ r, 31 ≤ r → r ≤ 47 → ∀ j, ((j = k ∧ ¬ r = 42 ∧ ¬ (33 ≤ r ∧ r ≤ 35)) ∨ (25 * k ≤ j ∧ j < 25 * k + 25 ∧ 33 ≤ r ∧ r ≤ 35) ∨ (2 * k ≤ j ∧ j < 2 * k + 2 ∧ r = 42)) → v'.2.1 r j = v.2.1 r j) : RK1 n x' v' k := by
  have hk : ∀ r, 31 ≤ r → r ≤ 47 → ¬ r = 42 → ¬ (33 ≤ r ∧ r ≤ 35) → v'.2.1 r k = v.2.1 r k := fun r a b c d => hv r a b k (Or.inl ⟨rfl, c, d⟩)
  have hs : ∀ r, 33 ≤ r → r ≤ 35 → ∀ i, i < 25 → v'.2.1 r (25 * k + i) = v.2.1 r (25 * k + i) := fun r a b i hi => hv r (by omega) (by omega) _ (Or.inr (Or.inl ⟨by omega, by omega, a, b⟩))
  have hw0 : v'.2.1 42 (2 * k) = v.2.1 42 (2 * k) := hv 42 (by omega) (by omega) _ (Or.inr (Or.inr ⟨by omega, by omega, rfl⟩))
  have hw1 : v'.2.1 42 (2 * k + 1) = v.2.1 42 (2 * k + 1) := hv 42 (by omega) (by omega) _ (Or.inr (Or.inr ⟨by omega, by omega, rfl⟩))
  have x18 := h1 18 (by omega) (by omega)
  have x20 := h1 20 (by omega) (by omega)
  have x23 := h1 23 (by omega) (by omega)
  obtain ⟨a, b, c, d, e, f, g, o⟩ := h
  have hN := a.2.2.2.1.2
  unfold RK1
  rw [x18, x18, x23, x23, x20, x20, x20, x20, x20, x20, x20, x20, x20, x20, x20, x20, x20, hw0, hw1, hk 31 (by omega) (by omega) (by omega) (by omega), hk 32 (by omega) (by omega) (by omega) (by omega), hk 36 (by omega) (by omega) (by omega) (by omega), hk 37 (by omega) (by omega) (by omega) (by omega), hk 38 (by omega) (by omega) (by omega) (by omega), hk 39 (by omega) (by omega) (by omega) (by omega), hk 40 (by omega) (by omega) (by omega) (by omega), hk 41 (by omega) (by omega) (by omega) (by omega), hk 43 (by omega) (by omega) (by omega) (by omega), hk 44 (by omega) (by omega) (by omega) (by omega), hk 45 (by omega) (by omega) (by omega) (by omega), hk 46 (by omega) (by omega) (by omega) (by omega), hk 47 (by omega) (by omega) (by omega) (by omega)]
  refine ⟨a, fun i hi => ?_, fun i hi => ?_, d, e, f, g, fun q => ?_⟩
  · rw [h1 19 (by omega) (by omega), hs 33 (by omega) (by omega) i (by omega)]; exact b i hi
  · rw [h1 21 (by omega) (by omega), h1 22 (by omega) (by omega), hs 34 (by omega) (by omega) i hi, hs 35 (by omega) (by omega) i hi]; exact c i hi
  · obtain ⟨o1, o2, o3⟩ := o q
    refine ⟨o1, ?_, o3⟩
    rw [o2]
    congr 1
    refine anyn_congr (fun i hi => ?_)
    unfold mHasP
    rw [hs 34 (by omega) (by omega) i (by omega)]
theorem isK_x {t : Int32} (h : isK t = true) : sI t < 5 ∧ t = nI (sI t) := isC_x (n := 5) (by omega) h
theorem inR_b {lo hi : Int} {q : Int32} : inR lo hi q = true ↔ lo ≤ q.toInt ∧ q.toInt ≤ hi := by
  unfold inR
  rw [decide_eq_true_iff]
theorem rel_open (h : Rel n T x v) (k q : Int32) : (csOpen x k q).1 = (spOpen v k q).1 ∧ Rel n T (csOpen x k q).2 (spOpen v k q).2 := by
  unfold csOpen spOpen
  have hq : (isK k = true ∧ ¬ q < 1 ∧ ¬ 25 < q ∧ ¬ q - q / 2 * 2 = 0) ↔ (isK k && (inR 1 25 q && !decide (q - q / 2 * 2 = 0))) = true := by
    rw [Bool.and_eq_true_iff, Bool.and_eq_true_iff, inR_b (lo := 1) (hi := 25) (q := q), Int32.not_lt, Int32.not_lt, le_toI, le_toI, Bool.not_eq_true', decide_eq_false_iff_not]
    constructor
    · rintro ⟨a, b, c, d⟩; exact ⟨a, ⟨b, c⟩, d⟩
    · rintro ⟨a, ⟨b, c⟩, d⟩; exact ⟨a, b, c, d⟩
  by_cases h1 : (isK k && (inR 1 25 q && !decide (q - q / 2 * 2 = 0))) = true
  · rw [if_pos (hq.mpr h1), if_pos h1]
    obtain ⟨hk, q1, q2, -⟩ := hq.mpr h1
    obtain ⟨hk5, -⟩ := isK_x hk
    obtain ⟨⟨a1, a2, a3, a4, a5⟩, b, c, d, e, f, g, o⟩ := h.rk _ hk5
    rw [a1]
    by_cases h2 : 0 < v.2.1 31 (sI k)
    · rw [if_pos h2, if_pos h2]; exact ⟨rfl, h⟩
    · rw [if_neg h2, if_neg h2]
      have z31 : sI (v.2.1 31 (sI k)) = 0 := by
        rcases Nat.eq_zero_or_pos (sI (v.2.1 31 (sI k))) with e0 | e0
        · exact e0
        · exact absurd (by rw [a2.1]; exact (nI_ltI (a := 0) (by omega) (by have := a2.2; omega)).mpr e0) h2
      have e31 : v.2.1 31 (sI k) = 0 := by rw [a2.1, z31]; rfl
      have h37 : v.2.1 37 (sI k) = 0 := Classical.byContradiction (fun q9 => (g q9).2.2 e31)
      have hqn : nn q 25 := by
        obtain ⟨j, hj, ej⟩ := nI_of (x := q) (fun q9 => q1 (Int32.lt_trans q9 (by decide)))
        have : ¬ 25 < j := fun q9 => q2 (by rw [ej]; exact (nI_ltI (a := 25) (by omega) hj).mpr q9)
        exact nn_of ej (by omega) (by omega)
      refine ⟨rfl, h.rs, h.rt, h.rl, h.rc, h.rd, h.rp, h.rh, fun k9 hk9 => ?_, h.rx, h.rw⟩
      by_cases hkk : k9 = sI k
      · subst hkk
        unfold RK1
        simp only [cI_r, mrU_r]
        refine ⟨⟨by simp, by simpa using hqn, a3, a4, ?_⟩, b, c, d, e, f, fun q9 => absurd h37 q9, fun q9 => absurd h37 (o q9).1⟩
        simp
        omega
      · exact RK1_ext (h.rk k9 hk9) (fun κ _ _ s => by rw [cI_r, if_neg (by omega)]) (fun r _ _ j hj => by rw [mrU_r, if_neg (by omega)])
  · rw [if_neg (fun q9 => h1 (hq.mp q9)), if_neg h1]
    exact ⟨rfl, h⟩
theorem rel_witness (h : Rel n T x v) (k : Int32) : (csWitness x k).1 = (spWitness (fun k => sI (v.2.1 32 k)) v k).1 ∧ Rel n T (csWitness x k).2 (spWitness (fun k => sI (v.2.1 32 k)) v k).2 := by
  unfold csWitness spWitness
  dsimp only
  by_cases hk : isK k = true
  · obtain ⟨hk5, -⟩ := isK_x hk
    rw [if_pos hk, if_pos hk]
    obtain ⟨a, b, c, ⟨d1, d2, d3⟩, ⟨e1, e2, e3, e4, e5, e6, e7, e8⟩, f, g, o⟩ := h.rk _ hk5
    unfold cTurn
    rw [d2, e8]
    by_cases h36 : v.2.1 36 (sI k) = 0
    · rw [if_pos (Or.inl h36), if_pos (Or.inl h36)]; exact ⟨rfl, h⟩
    · obtain ⟨o1, o2, o3⟩ := o h36
      rw [o2]
      by_cases hd : anyn (mHasP v (sI k)) (sI (v.2.1 32 (sI k))) = true
      · rw [if_pos (Or.inr (by rw [hd]; decide)), if_pos (Or.inr hd)]; exact ⟨rfl, h⟩
      · have n1 : ¬ (v.2.1 36 (sI k) = 0 ∨ ¬ zI (anyn (mHasP v (sI k)) (sI (v.2.1 32 (sI k)))) = 0) := fun q9 => q9.elim h36 (fun q8 => hd ((zI_ne _).mp q8))
        have n2 : ¬ (v.2.1 36 (sI k) = 0 ∨ anyn (mHasP v (sI k)) (sI (v.2.1 32 (sI k))) = true) := fun q9 => q9.elim h36 hd
        rw [if_neg n1, if_neg n2]
        have key : ∀ z : Int32, Rel n T (cI x 20 (sI k) 11 z) (mrU v 44 (sI k) z) := fun z => by
          refine ⟨h.rs, h.rt, h.rl, h.rc, h.rd, h.rp, h.rh, fun k9 hk9 => ?_, h.rx, h.rw⟩
          by_cases hkk : k9 = sI k
          · subst hkk
            unfold RK1
            simp only [cI_r, mrU_r]
            exact ⟨a, b, c, ⟨d1, d2, d3⟩, ⟨e1, e2, e3, e4, e5, e6, e7, by simp⟩, f, g, o⟩
          · exact RK1_ext (h.rk k9 hk9) (fun κ _ _ s => by rw [cI_r, if_neg (by omega)]) (fun r _ _ j hj => by rw [mrU_r, if_neg (by omega)])
        by_cases h44 : v.2.1 44 (sI k) = 0
        · rw [if_pos h44, if_pos h44]; exact ⟨rfl, key 1⟩
        · rw [if_neg h44, if_neg h44]; exact ⟨rfl, key 0⟩
  · rw [if_neg hk, if_neg hk]; exact ⟨rfl, h⟩
theorem rel_speak (h : Rel n T x v) (k sd q : Int32) : (csSpeak x k sd q).1 = (spSpeak (fun k => sI (v.2.1 32 k)) v k sd q).1 ∧ Rel n T (csSpeak x k sd q).2 (spSpeak (fun k => sI (v.2.1 32 k)) v k sd q).2 := by
  unfold csSpeak spSpeak
  dsimp only
  have hq : (isK k = true ∧ ¬ sd < 0 ∧ ¬ 1 < sd ∧ ¬ q < 1 ∧ q ≤ 1000) ↔ (isK k && (inR 0 1 sd && inR 1 1000 q)) = true := by
    rw [Bool.and_eq_true_iff, Bool.and_eq_true_iff, inR_b (lo := 0) (hi := 1) (q := sd), inR_b (lo := 1) (hi := 1000) (q := q), Int32.not_lt, Int32.not_lt, Int32.not_lt, le_toI, le_toI, le_toI, le_toI]
    constructor
    · rintro ⟨a, b, c, d, e⟩; exact ⟨a, ⟨b, c⟩, d, e⟩
    · rintro ⟨a, ⟨b, c⟩, d, e⟩; exact ⟨a, b, c, d, e⟩
  by_cases h1 : (isK k && (inR 0 1 sd && inR 1 1000 q)) = true
  · rw [if_pos (hq.mpr h1), if_pos h1]
    have hk := (hq.mpr h1).1
    obtain ⟨hk5, -⟩ := isK_x hk
    have hsd := (Bool.and_eq_true_iff.mp (Bool.and_eq_true_iff.mp h1).2).1
    obtain ⟨hd2, ed⟩ := isC_x (n := 2) (by omega) hsd
    obtain ⟨a, b, c, ⟨d1, d2, d3⟩, ⟨e1, e2, e3, e4, e5, e6, e7, e8⟩, f, g, o⟩ := h.rk _ hk5
    have ew : x.1 23 (sI k) (sI sd) = v.2.1 42 (2 * sI k + sI sd) := by
      rcases (show sI sd = 0 ∨ sI sd = 1 by omega) with q9 | q9
      · rw [q9]; exact e5
      · rw [q9]; exact e6
    unfold cHear
    rw [d2, e8, e7, ew]
    by_cases h36 : v.2.1 36 (sI k) = 0
    · rw [if_pos (Or.inl h36), if_pos (Or.inl h36)]; exact ⟨rfl, h⟩
    · obtain ⟨o1, o2, o3⟩ := o h36
      have hiff : (v.2.1 36 (sI k) = 0 ∨ ¬ v.2.1 44 (sI k) = 0 ∨ ¬ x.1 20 (sI k) 12 = 0 ∨ ¬ q ≤ v.2.1 42 (2 * sI k + sI sd) ∨ sd = 1 ∧ v.2.1 43 (sI k) = 0) ↔ (v.2.1 36 (sI k) = 0 ∨ sd = 1 ∧ v.2.1 43 (sI k) = 0 ∨ ¬ v.2.1 44 (sI k) = 0 ∨ anyn (mHasP v (sI k)) (sI (v.2.1 32 (sI k))) = true ∨ ¬ q ≤ v.2.1 42 (2 * sI k + sI sd)) := by
        have e9 : (¬ x.1 20 (sI k) 12 = 0) ↔ anyn (mHasP v (sI k)) (sI (v.2.1 32 (sI k))) = true := by rw [o2]; exact zI_ne _
        rw [e9]
        constructor
        · rintro (q1 | q1 | q1 | q1 | q1)
          · exact Or.inl q1
          · exact Or.inr (Or.inr (Or.inl q1))
          · exact Or.inr (Or.inr (Or.inr (Or.inl q1)))
          · exact Or.inr (Or.inr (Or.inr (Or.inr q1)))
          · exact Or.inr (Or.inl q1)
        · rintro (q1 | q1 | q1 | q1 | q1)
          · exact Or.inl q1
          · exact Or.inr (Or.inr (Or.inr (Or.inr q1)))
          · exact Or.inr (Or.inl q1)
          · exact Or.inr (Or.inr (Or.inl q1))
          · exact Or.inr (Or.inr (Or.inr (Or.inl q1)))
      by_cases h2 : (v.2.1 36 (sI k) = 0 ∨ sd = 1 ∧ v.2.1 43 (sI k) = 0 ∨ ¬ v.2.1 44 (sI k) = 0 ∨ anyn (mHasP v (sI k)) (sI (v.2.1 32 (sI k))) = true ∨ ¬ q ≤ v.2.1 42 (2 * sI k + sI sd))
      · rw [if_pos (hiff.mpr h2), if_pos h2]; exact ⟨rfl, h⟩
      · rw [if_neg (fun q9 => h2 (hiff.mp q9)), if_neg h2]
        refine ⟨rfl, h.rs, h.rt, h.rl, h.rc, h.rd, h.rp, h.rh, fun k9 hk9 => ?_, h.rx, h.rw⟩
        by_cases hkk : k9 = sI k
        · subst hkk
          unfold RK1
          simp only [cI_r, mrU_r]
          refine ⟨a, b, c, ⟨d1, d2, d3⟩, ⟨e1, e2, e3, e4, ?_, ?_, by simp, e8⟩, f, g, o⟩
          · rcases (show sI sd = 0 ∨ sI sd = 1 by omega) with q9 | q9
            · simp [q9]
            · simp [q9, e5]
          · rcases (show sI sd = 0 ∨ sI sd = 1 by omega) with q9 | q9
            · simp [q9, e6]
            · simp [q9]
        · exact RK1_ext (h.rk k9 hk9) (fun κ _ _ s => by rw [cI_r, if_neg (by omega), cI_r, if_neg (by omega)]) (fun r _ _ j hj => by rw [mrU_r, if_neg (by omega), mrU_r, if_neg (by omega)])
  · rw [if_neg (fun q9 => h1 (hq.mp q9)), if_neg h1]
    exact ⟨rfl, h⟩
end RE4
