/-! now, citizen -/
section RE7
variable {n T : Nat} {x x' : cS} {v v' : mS}
theorem nowC_f (v : mS) {r : Nat} (h : ¬ r = 22 ∧ ¬ r = 23 ∧ ¬ r = 24) : ∀ k, (nowC v k).2.1 r = v.2.1 r
  | 0 => rfl
  | k + 1 => by rw [nowC, mrU_f _ _ _ _ h.2.2, mrU_f _ _ _ _ h.2.1, mrU_f _ _ _ _ h.1, nowC_f v h k]
theorem nowC_r (v : mS) : ∀ k b, ((nowC v k).2.1 22 b = if b < k then -1 else v.2.1 22 b) ∧ ((nowC v k).2.1 23 b = if b < k then 0 else v.2.1 23 b) ∧ ((nowC v k).2.1 24 b = if b < k then -1 else v.2.1 24 b)
  | 0, b => ⟨rfl, rfl, rfl⟩
  | k + 1, b => by
    obtain ⟨h1, h2, h3⟩ := nowC_r v k b
    rw [nowC]
    simp only [mrU_r, h1, h2, h3]
    by_cases hb : b = k
    · subst hb; simp
    · by_cases hb2 : b < k
      · simp [hb, hb2, show b < k + 1 by omega]
      · simp [hb, hb2, show ¬ b < k + 1 by omega]
theorem nowC_s (v : mS) : ∀ k, (nowC v k).1 = v.1 ∧ (nowC v k).2.2 = v.2.2
  | 0 => ⟨rfl, rfl⟩
  | k + 1 => nowC_s v k
theorem nowD_f (v : mS) {r : Nat} (h : ¬ r = 25) : ∀ k, (nowD v k).2.1 r = v.2.1 r
  | 0 => rfl
  | k + 1 => by rw [nowD, mrU_f _ _ _ _ h, nowD_f v h k]
theorem nowD_r (v : mS) : ∀ k b, b < k → (nowD v k).2.1 25 b = 0
  | 0, b, h => by omega
  | k + 1, b, h => by
    rw [nowD, mrU_r]
    by_cases hb : b = k
    · rw [if_pos ⟨rfl, hb⟩]
    · rw [if_neg (fun q => hb q.2)]; exact nowD_r v k b (by omega)
theorem nowD_1 (v : mS) : ∀ k, (nowD v k).1 = v.1 ∧ (nowD v k).2.2 = v.2.2
  | 0 => ⟨rfl, rfl⟩
  | k + 1 => nowD_1 v k
theorem mShut_f (v : mS) {r : Nat} (h : ¬ r = 31 ∧ ¬ r = 32 ∧ ¬ r = 36 ∧ ¬ r = 37) : ∀ k, (mShut v k).2.1 r = v.2.1 r
  | 0 => rfl
  | k + 1 => by rw [mShut, mrU_f _ _ _ _ h.2.2.2, mrU_f _ _ _ _ h.2.2.1, mrU_f _ _ _ _ h.2.1, mrU_f _ _ _ _ h.1, mShut_f v h k]
theorem mShut_r (v : mS) {r : Nat} (h : r = 31 ∨ r = 32 ∨ r = 36 ∨ r = 37) : ∀ k b, b < k → (mShut v k).2.1 r b = 0
  | 0, b, h => by omega
  | k + 1, b, hb9 => by
    rw [mShut]
    simp only [mrU_r]
    by_cases hb : b = k
    · rcases h with q | q | q | q <;> simp [q, hb]
    · simp only [hb, and_false, if_false]
      exact mShut_r v h k b (by omega)
theorem mShut_1 (v : mS) : ∀ k, (mShut v k).1 = v.1 ∧ (mShut v k).2.2 = v.2.2
  | 0 => ⟨rfl, rfl⟩
  | k + 1 => mShut_1 v k
theorem cClr_o (x : cS) (cm : Nat → Nat) {s : Nat} (h : ¬ s = 7 ∧ ¬ s = 8 ∧ ¬ s = 9) : ∀ j c, (cClr x cm j).1 24 c s = x.1 24 c s
  | 0, _ => rfl
  | j + 1, c => by
    rw [cClr, cLv]
    simp only [cI_r, h.1, h.2.1, h.2.2, and_false, if_false]
    exact cClr_o x cm h j c
theorem cClr_z (x : cS) (cm : Nat → Nat) (c : Nat) : ∀ j, ((∃ i, i < j ∧ cm i = c) ∨ (x.1 24 c 7 = -1 ∧ x.1 24 c 8 = 0 ∧ x.1 24 c 9 = -1)) → (cClr x cm j).1 24 c 7 = -1 ∧ (cClr x cm j).1 24 c 8 = 0 ∧ (cClr x cm j).1 24 c 9 = -1
  | 0, h => h.resolve_left (fun ⟨i, hi, _⟩ => by omega)
  | j + 1, h => by
    rw [cClr, cLv]
    simp only [cI_r]
    by_cases hc : c = cm j
    · simp [hc]
    · simp [hc]
      refine cClr_z x cm c j ?_
      rcases h with ⟨i, hi, e⟩ | h
      · exact Or.inl ⟨i, by
          have : ¬ i = j := fun q => hc (by rw [← e, q])
          omega, e⟩
      · exact Or.inr h
theorem cShA_r (x : cS) (a b c : Nat) : ∀ k, (cShA x k).1 a b c = if b < k ∧ ((a = 18 ∧ (c = 2 ∨ c = 3)) ∨ (a = 20 ∧ (c = 3 ∨ c = 4))) then 0 else x.1 a b c
  | 0 => by rw [if_neg (fun q => by omega)]; rfl
  | k + 1 => by
    rw [cShA, cShut, cVan]
    simp only [cI_r]
    rw [cShA_r x a b c k]
    by_cases hq : ((a = 18 ∧ (c = 2 ∨ c = 3)) ∨ (a = 20 ∧ (c = 3 ∨ c = 4)))
    · by_cases hb : b = k
      · rw [if_pos (show b < k + 1 ∧ _ from ⟨by omega, hq⟩)]
        rcases hq with ⟨q1, q2 | q2⟩ | ⟨q1, q2 | q2⟩ <;> simp [q1, q2, hb]
      · simp only [hb, false_and, and_false, if_false]
        by_cases hb2 : b < k
        · rw [if_pos ⟨hb2, hq⟩, if_pos ⟨by omega, hq⟩]
        · rw [if_neg (fun q => hb2 q.1), if_neg (fun q => by omega)]
    · rw [if_neg (by omega), if_neg (by omega), if_neg (by omega), if_neg (by omega), if_neg (fun q => hq q.2), if_neg (fun q => hq q.2)]
theorem cShA_2 (x : cS) : ∀ k, (cShA x k).2 = x.2
  | 0 => rfl
  | k + 1 => cShA_2 x k
theorem cnt_0 {p : Nat → Bool} : ∀ {n : Nat}, (∀ i, i < n → p i = false) → cnt p n = 0
  | 0, _ => rfl
  | n + 1, h => by rw [cnt, cnt_0 (fun i hi => h i (by omega)), h n (by omega)]; rfl
theorem nI_i {k : Nat} (h : k < 2 ^ 29) : (nI k).toInt = k := by
  have h1 := nI_m1 (n := k + 1) (by omega)
  rw [Int32.toInt_toInt64, show (1 : Int32) = nI 1 from rfl, pk_sub (by omega)] at h1
  simpa using h1
theorem nI_i1 {k : Nat} (h : k < 2 ^ 29) : (nI k - 1).toInt = (k : Int) - 1 := by
  have h1 := nI_m1 (n := k) (by omega)
  rw [Int32.toInt_toInt64] at h1
  exact h1
theorem nI_i2 {k : Nat} (h : k < 2 ^ 28) : (nI k + 1).toInt = (k : Int) + 1 := by
  rw [nI_1, nI_i (by omega)]; omega
/-- whoever stands in the dawn, by number -/
noncomputable def cmX (x : cS) (i : Nat) : Nat := (x.2.2 10 0 i).getD 0
theorem rel_cm (h : Rel n T x v) : ∀ i, i < cnt (mCame v) n → x.2.2 10 0 i = some (cmX x i) ∧ cmX x i < n := fun i hi => by
  obtain ⟨c, h1, h2, -⟩ := h.rd.2.1 i hi
  have e : cmX x i = c := by rw [cmX, h2]; rfl
  rw [e]; exact ⟨h2, h1⟩
theorem RK1_shut {k : Nat} (h : RK1 n x v k) (h1 : ∀ κ s, 18 ≤ κ → κ ≤ 23 → ¬ (κ = 18 ∧ (s = 2 ∨ s = 3)) → ¬ (κ = 20 ∧ (s = 3 ∨ s = 4)) → x'.1 κ k s = x.1 κ k s) (h2 : x'.1 18 k 2 = 0 ∧ x'.1 18 k 3 = 0 ∧ x'.1 20 k 3 = 0 ∧ x'.1 20 k 4 = 0) (hv : ∀ r, 33 ≤ r → r ≤ 47 → ¬ r = 36 → ¬ r = 37 → v'.2.1 r = v.2.1 r) (hz : v'.2.1 31 k = 0 ∧ v'.2.1 32 k = 0 ∧ v'.2.1 36 k = 0 ∧ v'.2.1 37 k = 0) : RK1 n x' v' k := by
  obtain ⟨z1, z2, z3, z4⟩ := hz
  obtain ⟨y1, y2, y3, y4⟩ := h2
  obtain ⟨a, b, c, d, e, f, g, o⟩ := h
  have n0 : nn 0 25 := ⟨rfl, Nat.zero_le _⟩
  unfold RK1
  rw [z1, z2, z3, z4, y1, y2, y3, y4, hv 34 (by omega) (by omega) (by omega) (by omega), hv 35 (by omega) (by omega) (by omega) (by omega), hv 38 (by omega) (by omega) (by omega) (by omega), hv 39 (by omega) (by omega) (by omega) (by omega), hv 40 (by omega) (by omega) (by omega) (by omega), hv 41 (by omega) (by omega) (by omega) (by omega), hv 42 (by omega) (by omega) (by omega) (by omega), hv 43 (by omega) (by omega) (by omega) (by omega), hv 44 (by omega) (by omega) (by omega) (by omega), hv 45 (by omega) (by omega) (by omega) (by omega), hv 46 (by omega) (by omega) (by omega) (by omega), hv 47 (by omega) (by omega) (by omega) (by omega)]
  rw [h1 20 5 (by omega) (by omega) (by omega) (by omega), h1 20 6 (by omega) (by omega) (by omega) (by omega), h1 20 7 (by omega) (by omega) (by omega) (by omega), h1 20 8 (by omega) (by omega) (by omega) (by omega), h1 20 9 (by omega) (by omega) (by omega) (by omega), h1 20 10 (by omega) (by omega) (by omega) (by omega), h1 20 11 (by omega) (by omega) (by omega) (by omega), h1 20 13 (by omega) (by omega) (by omega) (by omega), h1 20 14 (by omega) (by omega) (by omega) (by omega), h1 20 15 (by omega) (by omega) (by omega) (by omega), h1 23 0 (by omega) (by omega) (by omega) (by omega), h1 23 1 (by omega) (by omega) (by omega) (by omega)]
  refine ⟨⟨rfl, n0, rfl, n0, Nat.le_refl _⟩, fun i hi => absurd hi (Nat.not_lt_zero _), fun i hi => ?_, ⟨rfl, rfl, d.2.2⟩, e, f, fun q => absurd rfl q, fun q => absurd rfl q⟩
  rw [h1 21 i (by omega) (by omega) (by omega) (by omega), h1 22 i (by omega) (by omega) (by omega) (by omega)]
  exact c i hi
theorem rel_now (h : Rel n T x v) (day : Int32) : (csNow x (cmX x) (cnt (mCame v) n) day).1 = (spNow n v day).1 ∧ Rel n T (csNow x (cmX x) (cnt (mCame v) n) day).2 (spNow n v day).2 := by
  unfold csNow spNow
  obtain ⟨s1, s2, s3, s4, s5, s6, s7, s8, s9⟩ := h.rs
  have hN14 := s5.2
  have hq : (¬ day ≤ x.1 0 0 8 ∧ day ≤ 20000) ↔ inR (v.1 14 + 1).toInt 20000 day = true := by
    rw [inR_b, s4, le_toI, le_toI, s5.1, nI_i2 (by omega), nI_i (by omega)]
    have : (20000 : Int32).toInt = 20000 := rfl
    rw [this]
    omega
  by_cases h1 : inR (v.1 14 + 1).toInt 20000 day = true
  · rw [if_pos (hq.mpr h1), if_pos h1]
    have hday : nn day 20000 := by
      have h2 := inR_b.mp h1
      rw [s5.1, nI_i2 (by omega)] at h2
      obtain ⟨j, hj, ej⟩ := nI_of (x := day) (fun q => by
        have := Int32.lt_iff_toInt_lt.mp q
        have e0 : (0 : Int32).toInt = 0 := rfl
        omega)
      refine nn_of ej ?_ (by omega)
      have h3 : nI j ≤ nI 20000 := by rw [le_toI, ← ej]; exact h2.2
      exact (nI_leI hj (by omega)).mp h3
    refine ⟨rfl, ?_⟩
    dsimp only
    generalize hV : mShut (miU (miU (nowD (nowC (miU v 14 day) n) 10) 27 0) 28 0) 5 = V
    generalize hX : cShA (cClear (cI x 0 0 8 day) (cmX x) (cnt (mCame v) n)) 5 = X
    have V1 : V.1 = fun r => if r = 28 then 0 else if r = 27 then 0 else if r = 14 then day else v.1 r := by
      rw [← hV, (mShut_1 _ 5).1]
      funext r
      rw [miU_r, miU_r, (nowD_1 _ 10).1, (nowC_s _ n).1, miU_r]
    have V2 : V.2.2 = v.2.2 := by
      rw [← hV, (mShut_1 _ 5).2]
      show (nowD (nowC (miU v 14 day) n) 10).2.2 = v.2.2
      rw [(nowD_1 _ 10).2, (nowC_s _ n).2]; rfl
    have Vg : ∀ r, ¬ (r = 31 ∨ r = 32 ∨ r = 36 ∨ r = 37 ∨ r = 25) → V.2.1 r = (nowC (miU v 14 day) n).2.1 r := fun r hr => by
      rw [← hV, mShut_f _ (by omega)]
      show (nowD (nowC (miU v 14 day) n) 10).2.1 r = _
      rw [nowD_f _ (by omega)]
    have Vf : ∀ r, ¬ (r = 31 ∨ r = 32 ∨ r = 36 ∨ r = 37 ∨ r = 25 ∨ r = 22 ∨ r = 23 ∨ r = 24) → V.2.1 r = v.2.1 r := fun r hr => by
      rw [Vg r (by omega), nowC_f _ (by omega)]; rfl
    have V22 : ∀ c, c < n → V.2.1 22 c = -1 := fun c hc => by rw [Vg 22 (by omega), (nowC_r _ n c).1, if_pos hc]
    have V23 : ∀ c, c < n → V.2.1 23 c = 0 := fun c hc => by rw [Vg 23 (by omega), (nowC_r _ n c).2.1, if_pos hc]
    have V24 : ∀ c, c < n → V.2.1 24 c = -1 := fun c hc => by rw [Vg 24 (by omega), (nowC_r _ n c).2.2, if_pos hc]
    have V239 : ∀ c, n ≤ c → V.2.1 23 c = v.2.1 23 c := fun c hc => by rw [Vg 23 (by omega), (nowC_r _ n c).2.1, if_neg (by omega)]; rfl
    have V25 : ∀ t, t < 10 → V.2.1 25 t = 0 := fun t ht => by
      rw [← hV, mShut_f _ (by omega)]
      exact nowD_r _ 10 t ht
    have V3 : ∀ r, r = 31 ∨ r = 32 ∨ r = 36 ∨ r = 37 → ∀ k, k < 5 → V.2.1 r k = 0 := fun r hr k hk => by rw [← hV]; exact mShut_r _ hr 5 k hk
    have X2 : X.2 = x.2 := by
      rw [← hX, cShA_2]
      exact (cClr_keep _ _ _).2
    have Xg : ∀ a b c, ¬ (b < 5 ∧ ((a = 18 ∧ (c = 2 ∨ c = 3)) ∨ (a = 20 ∧ (c = 3 ∨ c = 4)))) → X.1 a b c = (cClear (cI x 0 0 8 day) (cmX x) (cnt (mCame v) n)).1 a b c := fun a b c hh => by rw [← hX, cShA_r, if_neg hh]
    have Xf : ∀ a b c, ¬ (b < 5 ∧ ((a = 18 ∧ (c = 2 ∨ c = 3)) ∨ (a = 20 ∧ (c = 3 ∨ c = 4)))) → ¬ (a = 0 ∨ a = 9 ∨ a = 11 ∨ a = 12 ∨ a = 24) → X.1 a b c = x.1 a b c := fun a b c hh h9 => by
      rw [Xg a b c hh, cClear, cI_r, if_neg (by omega), cI_r, if_neg (by omega), cI_r, if_neg (by omega), cF_r, if_neg (by omega), cF_r, if_neg (by omega), (cClr_keep _ _ _).1 _ _ _ (by omega), cI_r, if_neg (by omega)]
    have X0 : ∀ c, X.1 0 0 c = if c = 8 then day else x.1 0 0 c := fun c => by
      rw [Xg 0 0 c (by omega), cClear, cI_r, if_neg (by omega), cI_r, if_neg (by omega), cI_r, if_neg (by omega), cF_r, if_neg (by omega), cF_r, if_neg (by omega), (cClr_keep _ _ _).1 _ _ _ (by omega), cI_r]
      simp
    have X9 : X.1 9 0 4 = 0 ∧ X.1 9 0 5 = 0 ∧ X.1 9 0 6 = 0 := by
      rw [Xg 9 0 4 (by omega), Xg 9 0 5 (by omega), Xg 9 0 6 (by omega), cClear]
      simp [cI_r]
    have X11 : ∀ j, j < 50 → X.1 11 0 j = 0 := fun j hj => by
      rw [Xg 11 0 j (by omega), cClear]
      simp [cI_r, cF_r, hj]
    have X12 : ∀ j, j < 10 → X.1 12 0 j = 0 := fun j hj => by
      rw [Xg 12 0 j (by omega), cClear]
      simp [cI_r, cF_r, hj]
    have X24 : ∀ c s, X.1 24 c s = (cClr (cI x 0 0 8 day) (cmX x) (cnt (mCame v) n)).1 24 c s := fun c s => by
      rw [Xg 24 c s (by omega), cClear, cI_r, if_neg (by omega), cI_r, if_neg (by omega), cI_r, if_neg (by omega), cF_r, if_neg (by omega), cF_r, if_neg (by omega)]
    have X24o : ∀ c s, ¬ s = 7 ∧ ¬ s = 8 ∧ ¬ s = 9 → X.1 24 c s = x.1 24 c s := fun c s hs => by
      rw [X24, cClr_o _ _ hs, cI_r, if_neg (by omega)]
    have X24z : ∀ c, c < n → X.1 24 c 7 = -1 ∧ X.1 24 c 8 = 0 ∧ X.1 24 c 9 = -1 := fun c hc => by
      rw [X24, X24, X24]
      refine cClr_z _ _ c _ ?_
      by_cases hcame : v.2.1 22 c = -1
      · right
        obtain ⟨g1, g2, g3, g4, g5, g6, g7, g8, g9, g10, g11, g12, g13, g14, -⟩ := h.rc.1 c hc
        have p5 := h.rd.2.2.2.2.1 c hc
        simp only [cI_r]
        simp [g12, g13, g14, hcame]
        exact ⟨Classical.byContradiction (fun q => p5.1 q hcame), Classical.byContradiction (fun q => p5.2 q hcame)⟩
      · left
        obtain ⟨i, hi, ei⟩ := h.rd.2.2.1 c hc hcame
        exact ⟨i, hi, by rw [cmX, ei]; rfl⟩
    have X18 : ∀ k, k < 5 → X.1 18 k 2 = 0 ∧ X.1 18 k 3 = 0 ∧ X.1 20 k 3 = 0 ∧ X.1 20 k 4 = 0 := fun k hk => by
      rw [← hX, cShA_r, cShA_r, cShA_r, cShA_r, if_pos (by omega), if_pos (by omega), if_pos (by omega), if_pos (by omega)]
      exact ⟨rfl, rfl, rfl, rfl⟩
    have c0 : cnt (mCame V) n = 0 := cnt_0 (fun i hi => by rw [mCame, V22 i hi]; rfl)
    have p0 : ∀ t w, cnt (mColP V t w) n = 0 := fun t w => cnt_0 (fun i hi => by rw [mColP, V22 i hi]; simp)
    refine ⟨?_, ?_, ?_, ?_, ?_, ?_, ?_, ?_, ?_, ?_⟩
    · unfold RS
      rw [V1]
      simp only [X0, Xf 3 0 4 (by omega) (by omega), Xf 3 0 5 (by omega) (by omega)]
      exact ⟨s1, s2, s3, rfl, hday, s6, s7, s8, s9⟩
    · have := h.rt
      unfold RT at this ⊢
      rw [V1]
      simp only [Xf 1 0 1 (by omega) (by omega), fun j => Xf 2 0 j (by omega) (by omega), Vf 0 (by omega)]
      exact this
    · have := h.rl
      unfold RLw at this ⊢
      rw [V1]
      simp only [Xf 6 0 2 (by omega) (by omega), fun i j => Xf 25 i j (by omega) (by omega), fun i j => Xf 26 i j (by omega) (by omega), Vf 10 (by omega), Vf 11 (by omega), X2]
      exact this
    · refine ⟨fun c hc => ?_, fun c hc hc2 => ?_, ?_⟩
      · obtain ⟨g1, g2, g3, g4, g5, g6, g7, g8, g9, g10, g11, g12, g13, g14, g15, g16, g17⟩ := h.rc.1 c hc
        obtain ⟨z1, z2, z3⟩ := X24z c hc
        unfold RC1
        rw [X2, z1, z2, z3, V22 c hc, V23 c hc, V24 c hc, X24o c 0 (by omega), X24o c 1 (by omega), X24o c 2 (by omega), X24o c 3 (by omega), X24o c 4 (by omega), X24o c 5 (by omega), X24o c 6 (by omega), Vf 16 (by omega), Vf 17 (by omega), Vf 18 (by omega), Vf 19 (by omega), Vf 20 (by omega), Vf 21 (by omega)]
        exact ⟨g1, g2, g3, g4, g5, g6, g7, g8, g9, g10, g11, rfl, rfl, rfl, Or.inl rfl, Or.inl rfl, g17⟩
      · have := h.rc.2.1 c hc hc2
        rw [V239 c hc, Vf 19 (by omega), Vf 20 (by omega), Vf 21 (by omega)]
        exact this
      · have := h.rc.2.2
        unfold cRef at this ⊢
        rw [X2]
        exact this
    · unfold RD
      rw [c0, X9.1]
      refine ⟨rfl, fun i hi => absurd hi (Nat.not_lt_zero _), fun c hc q => absurd (V22 c hc) q, fun t ht w hw => ?_, fun c hc => ⟨fun q => absurd (V23 c hc) q, fun q => absurd (V24 c hc) q⟩, fun t ht => ?_⟩
      · rw [X11 _ (by omega), p0]; rfl
      · rw [X12 t ht, V25 t ht]
    · refine ⟨fun c hc q => absurd (V22 c hc) q, fun c hc d hd q => absurd (V22 c hc) q, fun t ht w hw p hp => ?_⟩
      rw [p0] at hp
      exact absurd hp (Nat.not_lt_zero _)
    · unfold RH
      rw [V1, X9.2.1, X9.2.2]
      have n0 : nn 0 150 := ⟨rfl, Nat.zero_le _⟩
      exact ⟨rfl, n0, fun i hi => absurd hi (Nat.not_lt_zero _), fun i j hi => absurd hi (Nat.not_lt_zero _), Nat.zero_le _, rfl, n0, Nat.le_refl _⟩
    · intro k hk
      refine RK1_shut (h.rk k hk) (fun κ s a b c d => Xf κ k s (by omega) (by omega)) (X18 k hk) (fun r a b c d => Vf r (by omega)) ⟨V3 31 (by omega) k hk, V3 32 (by omega) k hk, V3 36 (by omega) k hk, V3 37 (by omega) k hk⟩
    · refine ⟨fun k hk i hi => ?_, fun k hk i hi => ?_⟩
      · rw [V3 32 (by omega) k hk] at hi
        exact absurd hi (Nat.not_lt_zero _)
      · rw [V3 32 (by omega) k hk] at hi
        exact absurd hi (Nat.not_lt_zero _)
    · have := h.rw
      unfold RW at this ⊢
      rw [V2]
      exact this
  · rw [if_neg (fun q => h1 (hq.mp q)), if_neg h1]
    exact ⟨rfl, h⟩
end RE7
