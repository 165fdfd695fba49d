/-! close: the payment and the whole -/
section RED
variable {n T : Nat} {x x' : cS} {v v' : mS}
theorem RX_ext2 (h : RX v) (h1 : v'.1 28 = v.1 28) (h2 : ∀ r, r = 24 ∨ r = 26 ∨ r = 32 ∨ r = 33 → v'.2.1 r = v.2.1 r) : RX v' := by
  unfold RX at h ⊢
  simp only [h1, h2 24 (by decide), h2 26 (by decide), h2 32 (by decide), h2 33 (by decide)]
  exact h
theorem clA_f (ns : Nat → Nat) (v : mS) (K : Nat) {r : Nat} (h : ¬ (r = 36 ∨ r = 45 ∨ r = 46 ∨ r = 47)) : (clA T ns v K).2.1 r = v.2.1 r := by
  unfold clA
  rw [mrU_f _ _ _ _ (by omega), mrU_f _ _ _ _ (by omega), mrU_f _ _ _ _ (by omega), mrU_f _ _ _ _ (by omega)]
theorem clA_o (ns : Nat → Nat) (v : mS) (K : Nat) {r j : Nat} (h : ¬ j = K) : (clA T ns v K).2.1 r j = v.2.1 r j := by
  unfold clA
  rw [mrU_r, if_neg (fun q => h q.2), mrU_r, if_neg (fun q => h q.2), mrU_r, if_neg (fun q => h q.2), mrU_r, if_neg (fun q => h q.2)]
theorem clA_K (ns : Nat → Nat) (v : mS) (K : Nat) : (clA T ns v K).2.1 36 K = 0 ∧ (clA T ns v K).2.1 45 K = zI (clG T ns v K) ∧ (clA T ns v K).2.1 46 K = clW T ns v K ∧ (clA T ns v K).2.1 47 K = (clWM T ns v K).2 := by
  unfold clA
  simp only [mrU_r]
  simp
/-- the wages, place by place -/
theorem rel_wage (h : Rel n T x v) {K : Nat} (hK : K < 5) (ns : Nat → Nat) (q : Nat) (wg : Int32) : ∀ j, j ≤ sI (v.2.1 32 K) → (∀ d, d < n → (cPay (clD9 x T K (sI (v.2.1 32 K)) q) K wg (fun i => sI (v.2.1 33 (25 * K + i))) j).1 24 d 6 = (clP (clA T ns v K) K wg j).2.1 21 d) ∧ (cPay (clD9 x T K (sI (v.2.1 32 K)) q) K wg (fun i => sI (v.2.1 33 (25 * K + i))) j).1 0 0 10 = (clP (clA T ns v K) K wg j).1 49 ∧ (∀ d, n ≤ d → (clP (clA T ns v K) K wg j).2.1 21 d = v.2.1 21 d)
  | 0, _ => by
    have g := cJudge_keep x K (clT9 x T) (sI (v.2.1 32 K)) q
    refine ⟨fun d hd => ?_, ?_, fun d hd => ?_⟩
    · rw [cPay, clP, clD9, cI_r, if_neg (by omega), cI_r, if_neg (by omega), clJ9, g.1 24 d 6 (by omega), clA_f _ _ _ (by omega)]
      exact (h.rc.1 d hd).2.2.2.2.2.2.2.2.2.2.1
    · rw [cPay, clP, clD9, cI_r, if_neg (by omega), cI_r, if_neg (by omega), clJ9, g.1 0 0 10 (by omega)]
      exact h.rs.2.2.2.2.2.2.1
    · rw [clP, clA_f _ _ _ (by omega)]
  | j + 1, hj => by
    obtain ⟨i1, i2, i3⟩ := rel_wage h hK ns q wg j (by omega)
    have g := cJudge_keep x K (clT9 x T) (sI (v.2.1 32 K)) q
    obtain ⟨a, b, c9, -⟩ := h.rk _ hK
    have hN := a.2.2.2.1.2
    obtain ⟨b1, b2, b3⟩ := b j (by omega)
    have e21 : (clD9 x T K (sI (v.2.1 32 K)) q).1 21 K j = v.2.1 34 (25 * K + j) := by
      rw [clD9, cI_r, if_neg (by omega), cI_r, if_neg (by omega), clJ9, g.1 21 K j (by omega)]
      exact (c9 j (by omega)).1
    have e22 : (clD9 x T K (sI (v.2.1 32 K)) q).1 22 K j = v.2.1 35 (25 * K + j) := by
      rw [clD9, cI_r, if_neg (by omega), cI_r, if_neg (by omega), clJ9, g.1 22 K j (by omega)]
      exact (c9 j (by omega)).2
    rw [cPay, clP, clA_f _ _ _ (show ¬ (34 = 36 ∨ 34 = 45 ∨ 34 = 46 ∨ 34 = 47) by omega), clA_f _ _ _ (show ¬ (35 = 36 ∨ 35 = 45 ∨ 35 = 46 ∨ 35 = 47) by omega), clA_f _ _ _ (show ¬ (33 = 36 ∨ 33 = 45 ∨ 33 = 46 ∨ 33 = 47) by omega)]
    by_cases hcc : v.2.1 34 (25 * K + j) = -1 ∨ ¬ v.2.1 35 (25 * K + j) = 0
    · rw [if_pos hcc, if_neg (by
        unfold cCt
        rw [e21, e22]
        rcases hcc with q9 | q9
        · simp [q9]
        · simp [q9])]
      exact ⟨i1, i2, i3⟩
    · have hcc2 : cCt (clD9 x T K (sI (v.2.1 32 K)) q) K j = true := by
        unfold cCt
        rw [e21, e22]
        have q1 : ¬ v.2.1 34 (25 * K + j) = -1 := fun q9 => hcc (Or.inl q9)
        have q2 : v.2.1 35 (25 * K + j) = 0 := Classical.byContradiction (fun q9 => hcc (Or.inr q9))
        simp [q1, q2]
      rw [if_neg hcc, if_pos hcc2]
      refine ⟨fun d hd => ?_, ?_, fun d hd => ?_⟩
      · rw [cI_r, if_neg (by omega), cI_r, miU_s, mrU_r]
        by_cases hd2 : d = sI (v.2.1 33 (25 * K + j))
        · rw [if_pos ⟨rfl, hd2, rfl⟩, if_pos ⟨rfl, hd2⟩, i1 _ b3]
        · rw [if_neg (fun q9 => hd2 q9.2.1), if_neg (fun q9 => hd2 q9.2)]
          exact i1 d hd
      · rw [cI_r, if_pos ⟨rfl, rfl, rfl⟩, miU_r, if_pos rfl, i2]
      · rw [miU_s, mrU_r, if_neg (by omega)]
        exact i3 d hd
set_option maxHeartbeats 1000000 in
theorem rel_closeA (h : Rel n T x v) {K : Nat} (hK : K < 5) (h36 : ¬ v.2.1 36 K = 0) : Rel n T (clE9 x T K (sI (v.2.1 32 K)) (sI (v.2.1 38 K)) (fun i => sI (v.2.1 33 (25 * K + i)))) (miU (clP (clA T (fun k => sI (v.2.1 32 k)) v K) K (mLaw v (v.1 14) T 1) (sI (v.2.1 32 K))) 48 (v.1 48 + 1)) := by
  obtain ⟨j13, j14, j15, -⟩ := rel_judge h hK h36
  have l1 : x.1 26 (clT9 x T) 1 = mLaw v (v.1 14) T 1 := by
    unfold clT9
    rw [h.rs.2.2.2.1]
    exact rel_val h _ (by decide)
  obtain ⟨w1, w2, w3⟩ := rel_wage h hK (fun k => sI (v.2.1 32 k)) (sI (v.2.1 38 K)) (mLaw v (v.1 14) T 1) (sI (v.2.1 32 K)) (Nat.le_refl _)
  have kE := clE9_keep x T K (sI (v.2.1 32 K)) (sI (v.2.1 38 K)) (fun i => sI (v.2.1 33 (25 * K + i)))
  have kP := cPay_keep (clD9 x T K (sI (v.2.1 32 K)) (sI (v.2.1 38 K))) K (x.1 26 (clT9 x T) 1) (fun i => sI (v.2.1 33 (25 * K + i))) (sI (v.2.1 32 K))
  have kV := clP_keep (clA T (fun k => sI (v.2.1 32 k)) v K) K (mLaw v (v.1 14) T 1) (sI (v.2.1 32 K))
  have kV2 := clP_2 (clA T (fun k => sI (v.2.1 32 k)) v K) K (mLaw v (v.1 14) T 1) (sI (v.2.1 32 K))
  have o20 : ∀ b c, ¬ b = K → (clE9 x T K (sI (v.2.1 32 K)) (sI (v.2.1 38 K)) (fun i => sI (v.2.1 33 (25 * K + i)))).1 20 b c = x.1 20 b c := fun b c hb => by
    rw [clE9, kP.1 20 b c (by omega) (by omega), clD9, cI_r, if_neg (by omega), cI_r, if_neg (by omega), clJ9, cJudge_o _ _ _ _ _ hb]
  have o204 : (clE9 x T K (sI (v.2.1 32 K)) (sI (v.2.1 38 K)) (fun i => sI (v.2.1 33 (25 * K + i)))).1 20 K 4 = 0 := by
    rw [clE9, kP.1 20 K 4 (by omega) (by omega), clD9, cI_r, if_neg (by omega), cI_r, if_pos ⟨rfl, rfl, rfl⟩]
  have o09 : (clE9 x T K (sI (v.2.1 32 K)) (sI (v.2.1 38 K)) (fun i => sI (v.2.1 33 (25 * K + i)))).1 0 0 9 = v.1 48 + 1 := by
    rw [clE9, kP.1 0 0 9 (by omega) (by omega), clD9, cI_r, if_pos ⟨rfl, rfl, rfl⟩, h.rs.2.2.2.2.2.1]
  rw [← l1] at w1 w2 w3 kV kV2 ⊢
  have o246 : ∀ d, d < n → (clE9 x T K (sI (v.2.1 32 K)) (sI (v.2.1 38 K)) (fun i => sI (v.2.1 33 (25 * K + i)))).1 24 d 6 = (clP (clA T (fun k => sI (v.2.1 32 k)) v K) K (x.1 26 (clT9 x T) 1) (sI (v.2.1 32 K))).2.1 21 d := w1
  have o010 : (clE9 x T K (sI (v.2.1 32 K)) (sI (v.2.1 38 K)) (fun i => sI (v.2.1 33 (25 * K + i)))).1 0 0 10 = (clP (clA T (fun k => sI (v.2.1 32 k)) v K) K (x.1 26 (clT9 x T) 1) (sI (v.2.1 32 K))).1 49 := w2
  rw [← kE.2.2 13 (by omega)] at j13
  rw [← kE.2.2 14 (by omega)] at j14
  rw [← kE.2.2 15 (by omega)] at j15
  generalize clE9 x T K (sI (v.2.1 32 K)) (sI (v.2.1 38 K)) (fun i => sI (v.2.1 33 (25 * K + i))) = X at *
  generalize hV : clP (clA T (fun k => sI (v.2.1 32 k)) v K) K (x.1 26 (clT9 x T) 1) (sI (v.2.1 32 K)) = U at *
  obtain ⟨Xf, X2, -⟩ := kE
  have Vf : ∀ r, ¬ (r = 21 ∨ r = 36 ∨ r = 45 ∨ r = 46 ∨ r = 47) → (miU U 48 (v.1 48 + 1)).2.1 r = v.2.1 r := fun r hr => by rw [miU_s, kV.2 r (by omega), clA_f _ _ _ (by omega)]
  have Vo : ∀ r j, ¬ r = 21 → ¬ j = K → (miU U 48 (v.1 48 + 1)).2.1 r j = v.2.1 r j := fun r j hr hj => by rw [miU_s, kV.2 r hr, clA_o _ _ _ hj]
  have V1 : ∀ r, ¬ r = 48 → ¬ r = 49 → (miU U 48 (v.1 48 + 1)).1 r = v.1 r := fun r a b => by rw [miU_r, if_neg a, kV.1 r b]; rfl
  have V48 : (miU U 48 (v.1 48 + 1)).1 48 = v.1 48 + 1 := rfl
  have V49 : (miU U 48 (v.1 48 + 1)).1 49 = U.1 49 := rfl
  have V21 : (miU U 48 (v.1 48 + 1)).2.1 21 = U.2.1 21 := rfl
  have V2 : (miU U 48 (v.1 48 + 1)).2.2 = v.2.2 := by rw [miU_s, kV2]; rfl
  obtain ⟨y36, y45, y46, y47⟩ := clA_K (T := T) (fun k => sI (v.2.1 32 k)) v K
  have V36 : (miU U 48 (v.1 48 + 1)).2.1 36 K = 0 := by rw [miU_s, kV.2 36 (by omega)]; exact y36
  have V45 : (miU U 48 (v.1 48 + 1)).2.1 45 K = zI (clG T (fun k => sI (v.2.1 32 k)) v K) := by rw [miU_s, kV.2 45 (by omega)]; exact y45
  have V46 : (miU U 48 (v.1 48 + 1)).2.1 46 K = clW T (fun k => sI (v.2.1 32 k)) v K := by rw [miU_s, kV.2 46 (by omega)]; exact y46
  have V47 : (miU U 48 (v.1 48 + 1)).2.1 47 K = (clWM T (fun k => sI (v.2.1 32 k)) v K).2 := by rw [miU_s, kV.2 47 (by omega)]; exact y47
  generalize miU U 48 (v.1 48 + 1) = V at *
  have v0 := Vf 0 (by decide)
  have v10 := Vf 10 (by decide)
  have v11 := Vf 11 (by decide)
  have v16 := Vf 16 (by decide)
  have v17 := Vf 17 (by decide)
  have v18 := Vf 18 (by decide)
  have v19 := Vf 19 (by decide)
  have v20 := Vf 20 (by decide)
  have v22 := Vf 22 (by decide)
  have v23 := Vf 23 (by decide)
  have v24 := Vf 24 (by decide)
  have v25 := Vf 25 (by decide)
  have v26 := Vf 26 (by decide)
  have eC : mCame V = mCame v := by funext i; rw [mCame, mCame, v22]
  have eP : mColP V = mColP v := by funext t w i; rw [mColP, mColP, v16, v17, v22]
  have eA : mAtP V = mAtP v := by funext t w r i; rw [mAtP, mAtP, v16, v17, v22]
  refine ⟨?_, ?_, ?_, ⟨fun d hd => ?_, fun d hd1 hd2 => ?_, ?_⟩, ?_, ?_, ?_, fun k hk => ?_, RX_ext2 h.rx (V1 28 (by decide) (by decide)) (fun r hr => Vf r (by omega)), ?_⟩
  · obtain ⟨s1, s2, s3, s4, s5, s6, s7, s8, s9⟩ := h.rs
    unfold RS
    rw [o09, o010, V48, V49, V1 15 (by decide) (by decide), V1 14 (by decide) (by decide), V1 8 (by decide) (by decide), V1 9 (by decide) (by decide), Xf 0 0 7 (by omega) (by omega) (by omega), Xf 0 0 8 (by omega) (by omega) (by omega), Xf 3 0 4 (by omega) (by omega) (by omega), Xf 3 0 5 (by omega) (by omega) (by omega)]
    exact ⟨s1, s2, s3, s4, s5, rfl, rfl, s8, s9⟩
  · have := h.rt
    unfold RT at this ⊢
    simp only [V1 1 (by decide) (by decide), fun i s => Xf 1 i s (by omega) (by omega) (by omega), fun i s => Xf 2 i s (by omega) (by omega) (by omega), v0]
    exact this
  · have := h.rl
    unfold RLw at this ⊢
    simp only [V1 12 (by decide) (by decide), X2, fun i s => Xf 6 i s (by omega) (by omega) (by omega), fun i s => Xf 25 i s (by omega) (by omega) (by omega), fun i s => Xf 26 i s (by omega) (by omega) (by omega), v10, v11]
    exact this
  · obtain ⟨g1, g2, g3, g4, g5, g6, g7, g8, g9, g10, g11, g12, g13, g14, g15, g16, g17⟩ := h.rc.1 _ hd
    unfold RC1
    rw [X2, v16, v17, v18, v19, v20, v22, v23, v24, o246 d hd, V21, Xf 24 d 0 (by omega) (by omega) (by omega), Xf 24 d 1 (by omega) (by omega) (by omega), Xf 24 d 2 (by omega) (by omega) (by omega), Xf 24 d 3 (by omega) (by omega) (by omega), Xf 24 d 4 (by omega) (by omega) (by omega), Xf 24 d 5 (by omega) (by omega) (by omega), Xf 24 d 7 (by omega) (by omega) (by omega), Xf 24 d 8 (by omega) (by omega) (by omega), Xf 24 d 9 (by omega) (by omega) (by omega)]
    exact ⟨g1, g2, g3, g4, g5, g6, g7, g8, g9, g10, rfl, g12, g13, g14, g15, g16, g17⟩
  · have := h.rc.2.1 d hd1 hd2
    rw [v19, v20, v23, V21, w3 d hd1]
    exact this
  · have := h.rc.2.2
    unfold cRef at this ⊢
    rw [X2]
    exact this
  · have := h.rd
    unfold RD at this ⊢
    simp only [X2, fun i s => Xf 9 i s (by omega) (by omega) (by omega), fun i s => Xf 11 i s (by omega) (by omega) (by omega), fun i s => Xf 12 i s (by omega) (by omega) (by omega), v22, v23, v24, v25, eC, eP]
    exact this
  · have := h.rp
    unfold RP at this ⊢
    simp only [v16, v17, v22, eP, eA]
    exact this
  · have := h.rh
    unfold RH at this ⊢
    simp only [V1 27 (by decide) (by decide), V1 28 (by decide) (by decide), X2, fun i s => Xf 9 i s (by omega) (by omega) (by omega), v16, v22, v25, v26]
    exact this
  · by_cases hkk : k = K
    · rw [hkk]
      obtain ⟨a, b, c9, ⟨d1, d2, d3⟩, e, f, g, o⟩ := h.rk _ hK
      unfold RK1
      rw [V36, V45, V46, V47, j13, j14, j15, o204]
      simp only [fun i s => Xf 18 i s (by omega) (by omega) (by omega), fun i s => Xf 19 i s (by omega) (by omega) (by omega), fun i s => Xf 21 i s (by omega) (by omega) (by omega), fun i s => Xf 22 i s (by omega) (by omega) (by omega), fun i s => Xf 23 i s (by omega) (by omega) (by omega), Xf 20 K 3 (by omega) (by omega) (by omega), Xf 20 K 5 (by omega) (by omega) (by omega), Xf 20 K 6 (by omega) (by omega) (by omega), Xf 20 K 7 (by omega) (by omega) (by omega), Xf 20 K 8 (by omega) (by omega) (by omega), Xf 20 K 9 (by omega) (by omega) (by omega), Xf 20 K 10 (by omega) (by omega) (by omega), Xf 20 K 11 (by omega) (by omega) (by omega), Vf 31 (by decide), Vf 32 (by decide), Vf 33 (by decide), Vf 34 (by decide), Vf 35 (by decide), Vf 37 (by decide), Vf 38 (by decide), Vf 39 (by decide), Vf 40 (by decide), Vf 41 (by decide), Vf 42 (by decide), Vf 43 (by decide), Vf 44 (by decide)]
      exact ⟨a, b, c9, ⟨d1, trivial, d3⟩, e, ⟨trivial, trivial, trivial⟩, g, fun q => absurd trivial q⟩
    · refine RK1_ext (h.rk k hk) (fun κ _ _ s => ?_) (fun r _ _ j hj => ?_)
      · by_cases h20 : κ = 20
        · rw [h20]; exact o20 k s hkk
        · exact Xf κ k s (by omega) (by omega) (by omega)
      · by_cases hjK : j = K
        · rw [Vf r (by omega)]
        · exact Vo r j (by omega) hjK
  · have := h.rw
    unfold RW at this ⊢
    rw [V2]
    exact this
theorem clW_n (h : Rel n T x v) {K : Nat} (hK : K < 5) (h36 : ¬ v.2.1 36 K = 0) (ns : Nat → Nat) (hw : ¬ clW T ns v K = -1) : clW T ns v K = nI (sI (clW T ns v K)) ∧ sI (clW T ns v K) < n := by
  obtain ⟨a, b, c9, d, e, f, g, o⟩ := h.rk _ hK
  obtain ⟨o1, o2, o3, o4, o5, o6⟩ := o h36
  unfold clW at hw ⊢
  split
  · rename_i q; rw [if_pos q] at hw; exact absurd rfl hw
  · rename_i q
    rw [if_neg q] at hw
    unfold clWM at hw q ⊢
    split
    · exact o5
    · split
      · exact o4
      · rename_i q1 q2; rw [if_neg q1, if_neg q2] at hw; exact absurd rfl hw
theorem rel_close (h : Rel n T x v) (k : Int32) : (csClose x n T (fun k => sI (v.2.1 32 k)) (fun k => sI (x.1 20 k 5)) (fun k => sI (v.2.1 38 k)) (fun k i => sI (v.2.1 33 (25 * k + i))) k).1 = (spClose T (fun k => sI (v.2.1 32 k)) v k).1 ∧ Rel n T (csClose x n T (fun k => sI (v.2.1 32 k)) (fun k => sI (x.1 20 k 5)) (fun k => sI (v.2.1 38 k)) (fun k i => sI (v.2.1 33 (25 * k + i))) k).2 (spClose T (fun k => sI (v.2.1 32 k)) v k).2 := by
  unfold csClose spClose
  dsimp only
  by_cases hk : isK k = true
  · rw [if_pos hk, if_pos hk]
    obtain ⟨hK, -⟩ := isK_x hk
    generalize sI k = K at hK
    obtain ⟨a, b, c9, ⟨d1, d2, d3⟩, e, ⟨f1, f2, f3⟩, g, o⟩ := h.rk _ hK
    rw [d2]
    by_cases h36 : v.2.1 36 K = 0
    · rw [if_pos (Or.inl h36), if_pos (Or.inl h36)]; exact ⟨rfl, h⟩
    · obtain ⟨o1, o2, o3, o4, o5, o6, o7, o8, o9⟩ := o h36
      have e5 := (g o1).1
      have hN := a.2.2.2.1.2
      have e5' : sI (x.1 20 K 5) = sI (v.2.1 32 K) := by rw [e5]
      have c2 : cnt (cWt x K) (sI (v.2.1 32 K)) = mDiscs v K 2 (sI (v.2.1 32 K)) := cnt_congr (fun i hi => (rel_ct h hK (by omega)).2.2.1)
      simp only [e5', c2]
      by_cases h2 : v.2.1 36 K = 0 ∨ 0 < mDiscs v K 2 (sI (v.2.1 32 K))
      · rw [if_pos h2, if_pos h2]; exact ⟨rfl, h⟩
      · rw [if_neg h2, if_neg h2]
        obtain ⟨j13, j14, j15, na⟩ := rel_judge h hK h36
        have RA := rel_closeA h hK h36
        unfold csCloseK
        rw [j14]
        by_cases hw : clW T (fun k => sI (v.2.1 32 k)) v K = -1
        · have hci : citF n (clW T (fun k => sI (v.2.1 32 k)) v K) = none := by
            rw [hw, citF, isC_m1 n (by have := h.rs.2.2.1; omega)]; rfl
          rw [hci, if_neg (fun q => q.1 hw)]
          refine ⟨j13, ?_⟩
          show Rel n T _ (miU (clP (clU T (fun k => sI (v.2.1 32 k)) v K) K (mLaw v (v.1 14) T 1) (sI (v.2.1 32 K))) 48 (v.1 48 + 1))
          unfold clU
          rw [if_pos hw]
          exact RA
        · obtain ⟨ew, hwn⟩ := clW_n h hK h36 _ hw
          have hn := h.rs.2.2.1
          have hci : citF n (clW T (fun k => sI (v.2.1 32 k)) v K) = some (sI (clW T (fun k => sI (v.2.1 32 k)) v K)) := by
            unfold citF
            rw [if_pos]
            generalize sI (clW T (fun k => sI (v.2.1 32 k)) v K) = c at ew hwn
            rw [ew]; exact isC_nI (by omega) hwn
          rw [hci]
          generalize sI (clW T (fun k => sI (v.2.1 32 k)) v K) = c at ew hwn hci
          dsimp only
          obtain ⟨g1, g2, g3, g4, g5, g6, g7, g8, g9, g10, -⟩ := h.rc.1 _ hwn
          rw [j15, g9]
          have e4 : (2000000000 - v.2.1 20 c).toInt = 2000000000 - (v.2.1 20 c).toInt := by
            have a1 := nn_i g10 (by omega)
            have a2 := g10.2
            rw [Int32.toInt_sub]
            have e5 : (2000000000 : Int32).toInt = 2000000000 := rfl
            rw [e5]
            exact Int.bmod_eq_of_le (by omega) (by omega)
          have hiff : (clWM T (fun k => sI (v.2.1 32 k)) v K).2 ≤ 2000000000 - v.2.1 20 c ↔ (v.2.1 20 c).toInt + (clWM T (fun k => sI (v.2.1 32 k)) v K).2.toInt ≤ 2000000000 := by
            rw [le_toI, e4]
            omega
          by_cases h3 : (v.2.1 20 c).toInt + (clWM T (fun k => sI (v.2.1 32 k)) v K).2.toInt ≤ 2000000000
          · rw [if_pos (hiff.mpr h3), if_neg (fun q => q.2 h3)]
            refine ⟨j13, ?_⟩
            show Rel n T _ (miU (clP (clU T (fun k => sI (v.2.1 32 k)) v K) K (mLaw v (v.1 14) T 1) (sI (v.2.1 32 K))) 48 (v.1 48 + 1))
            have hns : ∀ k, k < 5 → (fun k => sI (v.2.1 32 k)) k ≤ 25 := fun k hk => (h.rk k hk).1.2.2.2.1.2
            have sc : sI (clW T (fun k => sI (v.2.1 32 k)) v K) = c := by rw [ew]; exact sI_nI (by omega)
            unfold clU
            rw [if_neg hw, sc, clP_cm _ _ _ _ _ _ _ (fun i hi => by
              rw [mLay_r _ _ _ _ hns hK (by omega), if_neg (fun q => q.1 (clA_K _ _ _).1)]), ← mLay_ci]
            have kV := clP_keep (clA T (fun k => sI (v.2.1 32 k)) v K) K (mLaw v (v.1 14) T 1) (sI (v.2.1 32 K))
            have kE := clE9_keep x T K (sI (v.2.1 32 K)) (sI (v.2.1 38 K)) (fun i => sI (v.2.1 33 (25 * K + i)))
            have f32 : (fun k => sI ((miU (clP (clA T (fun k => sI (v.2.1 32 k)) v K) K (mLaw v (v.1 14) T 1) (sI (v.2.1 32 K))) 48 (v.1 48 + 1)).2.1 32 k)) = fun k => sI (v.2.1 32 k) := by
              funext k9
              rw [miU_s, kV.2 32 (by omega), clA_f _ _ _ (by omega)]
            have f20 : (fun k => sI ((clE9 x T K (sI (v.2.1 32 K)) (sI (v.2.1 38 K)) (fun i => sI (v.2.1 33 (25 * K + i)))).1 20 k 5)) = fun k => sI (x.1 20 k 5) := by
              funext k9
              rw [kE.1 20 k9 5 (by omega) (by omega) (by omega)]
            have f21 : (miU (clP (clA T (fun k => sI (v.2.1 32 k)) v K) K (mLaw v (v.1 14) T 1) (sI (v.2.1 32 K))) 48 (v.1 48 + 1)).2.1 20 c = v.2.1 20 c := by
              rw [miU_s, kV.2 20 (by omega), clA_f _ _ _ (by omega)]
            have L := rel_lay RA hwn (clWM T (fun k => sI (v.2.1 32 k)) v K).2 (by
              rw [f21]
              refine nn_add g10 na ?_ (by omega)
              rw [nn_i g10 (by omega), nn_i na (by omega)] at h3
              omega)
            rw [f32, f20] at L
            exact L
          · rw [if_neg (fun q => h3 (hiff.mp q)), if_pos ⟨hw, h3⟩]
            refine ⟨rfl, ?_⟩
            have ex : cForg (clJ9 x T K (sI (v.2.1 32 K)) (sI (v.2.1 38 K))) K = x := by
              have kJ := cJudge_keep x K (clT9 x T) (sI (v.2.1 32 K)) (sI (v.2.1 38 K))
              refine Prod.ext ?_ kJ.2
              funext a9 b9 c8
              unfold cForg
              simp only [cI_r]
              by_cases q1 : a9 = 20 ∧ b9 = K ∧ c8 = 15
              · rw [if_pos q1, q1.1, q1.2.1, q1.2.2, f3, o9]
              · rw [if_neg q1]
                by_cases q2 : a9 = 20 ∧ b9 = K ∧ c8 = 14
                · rw [if_pos q2, q2.1, q2.2.1, q2.2.2, f2, o8]
                · rw [if_neg q2]
                  by_cases q3 : a9 = 20 ∧ b9 = K ∧ c8 = 13
                  · rw [if_pos q3, q3.1, q3.2.1, q3.2.2, f1, o7]
                  · rw [if_neg q3]
                    unfold clJ9 cJudge cCharge cJ1
                    split
                    · split
                      · simp only [cI_r]; rw [if_neg q1, if_neg q2, if_neg q1, if_neg q2, if_neg q3]
                      · simp only [cI_r]; rw [if_neg q1, if_neg q2, if_neg q3]
                    · split
                      · split
                        · simp only [cI_r]; rw [if_neg q1, if_neg q2, if_neg q1, if_neg q2, if_neg q3]
                        · simp only [cI_r]; rw [if_neg q1, if_neg q2, if_neg q3]
                      · simp only [cI_r]; rw [if_neg q1, if_neg q2, if_neg q3]
            show Rel n T (cForg (clJ9 x T K (sI (v.2.1 32 K)) (sI (v.2.1 38 K))) K) v
            rw [ex]; exact h
  · rw [if_neg hk, if_neg hk]; exact ⟨rfl, h⟩
end RED
