/-! close -/
section REC
variable {n T : Nat} {x x' : cS} {v v' : mS}
theorem mrU_cm (v : mS) {s s' : Nat} (i i' : Nat) (z z' : Int32) (h : ¬ s = s') : mrU (mrU v s i z) s' i' z' = mrU (mrU v s' i' z') s i z := by
  refine Prod.ext rfl (Prod.ext ?_ rfl)
  funext a b
  simp only [mrU_r]
  by_cases h1 : a = s' ∧ b = i'
  · rw [if_pos h1, if_neg (fun q => h (by rw [← q.1, h1.1])), if_pos h1]
  · rw [if_neg h1]
    by_cases h2 : a = s ∧ b = i
    · rw [if_pos h2, if_pos h2]
    · rw [if_neg h2, if_neg h2, if_neg h1]
theorem layI_cm (c : Int32) (k : Nat) (v : mS) (b : Nat) (z : Int32) : ∀ i, layI c k i (mrU v 21 b z) = mrU (layI c k i v) 21 b z
  | 0 => rfl
  | i + 1 => by
    rw [layI, layI, mrU_f _ _ _ _ (by decide), layI_cm c k v b z i]
    split
    · exact mrU_cm _ _ _ _ _ (by decide)
    · rfl
theorem layI_ci (c : Int32) (k : Nat) (v : mS) (b : Nat) (z : Int32) : ∀ i, layI c k i (miU v b z) = miU (layI c k i v) b z
  | 0 => rfl
  | i + 1 => by
    rw [layI, layI, miU_s, layI_ci c k v b z i]
    split <;> rfl
theorem layK_cm (c : Int32) (ns : Nat → Nat) (v : mS) (b : Nat) (z : Int32) : ∀ k, layK c ns k (mrU v 21 b z) = mrU (layK c ns k v) 21 b z
  | 0 => rfl
  | k + 1 => by
    rw [layK, layK, mrU_f _ _ _ _ (by decide), layK_cm c ns v b z k, layI_cm]
    split <;> rfl
theorem layK_ci (c : Int32) (ns : Nat → Nat) (v : mS) (b : Nat) (z : Int32) : ∀ k, layK c ns k (miU v b z) = miU (layK c ns k v) b z
  | 0 => rfl
  | k + 1 => by
    rw [layK, layK, miU_s, layK_ci c ns v b z k, layI_ci]
    split <;> rfl
theorem mLay_cm (v : mS) (ns : Nat → Nat) (c : Nat) (q : Int32) (b : Nat) (z : Int32) : mLay (mrU v 21 b z) ns c q = mrU (mLay v ns c q) 21 b z := by
  unfold mLay
  rw [mrU_f _ _ _ _ (show ¬ 20 = 21 by decide), mrU_cm _ _ _ _ _ (show ¬ 21 = 20 by decide), layK_cm]
theorem mLay_ci (v : mS) (ns : Nat → Nat) (c : Nat) (q : Int32) (b : Nat) (z : Int32) : mLay (miU v b z) ns c q = miU (mLay v ns c q) b z := by
  unfold mLay
  rw [← layK_ci]; rfl
theorem clP_cm (w : mS) (ns : Nat → Nat) (c : Nat) (q : Int32) (K : Nat) (pay : Int32) : ∀ j, (∀ i, i < j → (mLay w ns c q).2.1 35 (25 * K + i) = w.2.1 35 (25 * K + i)) → clP (mLay w ns c q) K pay j = mLay (clP w K pay j) ns c q
  | 0, _ => rfl
  | j + 1, h => by
    rw [clP, clP, h j (by omega), (mLay_keep w ns c q).2 34 (by decide) (by decide), (mLay_keep w ns c q).2 33 (by decide) (by decide), clP_cm w ns c q K pay j (fun i hi => h i (by omega))]
    split
    · rfl
    · rw [mLay_ci, mLay_cm, (mLay_keep (clP w K pay j) ns c q).2 21 (by decide) (by decide), (mLay_keep (clP w K pay j) ns c q).1]
theorem clP_2 (u : mS) (K : Nat) (pay : Int32) : ∀ j, (clP u K pay j).2.2 = u.2.2
  | 0 => rfl
  | j + 1 => by
    rw [clP]
    split
    · exact clP_2 u K pay j
    · exact clP_2 u K pay j
theorem mPlain_lok : ∀ z, z < 28 → lok z (mPlain (nI z)) := by
  unfold lok
  decide
theorem rel_lok (h : Rel n T x v) (day : Int32) {z : Nat} (hz : z < 28) : lok z (mLaw v day T z) := by
  unfold mLaw
  cases hb : fB v day T with
  | none => exact mPlain_lok z hz
  | some b => exact (h.rl.2.2.2.1 b (fB_lt hb)).2.2.2.2 z hz
theorem lok_nn {z : Nat} {a : Int32} (h : lok z a) (hz : ¬ (10 ≤ z ∧ z < 16)) : nn a 99999 := by
  obtain ⟨h1, h2, h3⟩ := h
  have h4 : 0 ≤ a.toInt := h1.resolve_left hz
  have e0 : (0 : Int32).toInt = 0 := rfl
  obtain ⟨j, hj, ej⟩ := nI_of (x := a) (fun q => by
    have := Int32.lt_iff_toInt_lt.mp q
    omega)
  have hn : nn a (2 ^ 31 - 1) := nn_of ej (by omega) (by omega)
  have := nn_i hn (by omega)
  exact ⟨hn.1, by omega⟩
theorem cCharge_o (x : cS) (k : Nat) (p q : Int32) {a b c : Nat} (h : ¬ b = k) : (cCharge x k p q).1 a b c = x.1 a b c := by
  unfold cCharge
  split
  · rw [cI_r, if_neg (fun q9 => h q9.2.1), cI_r, if_neg (fun q9 => h q9.2.1)]
  · rfl
theorem cJ1_o (x : cS) (k t n : Nat) {a b c : Nat} (h : ¬ b = k) : (cJ1 x k t n).1 a b c = x.1 a b c := by
  unfold cJ1
  rw [cI_r, if_neg (fun q9 => h q9.2.1), cI_r, if_neg (fun q9 => h q9.2.1), cI_r, if_neg (fun q9 => h q9.2.1)]
theorem cJudge_o (x : cS) (k t n q : Nat) {a b c : Nat} (h : ¬ b = k) : (cJudge x k t n q).1 a b c = x.1 a b c := by
  unfold cJudge
  split
  · rw [cCharge_o _ _ _ _ h, cJ1_o _ _ _ _ h]
  · split
    · rw [cCharge_o _ _ _ _ h, cJ1_o _ _ _ _ h]
    · exact cJ1_o _ _ _ _ h
theorem cCharge_v (x : cS) (k t n : Nat) (p q : Int32) (hq : nn q 2000000) : (cCharge (cJ1 x k t n) k p q).1 20 k 13 = zI (cGu x k t n) ∧ (cCharge (cJ1 x k t n) k p q).1 20 k 14 = (if q = 0 then -1 else p) ∧ (cCharge (cJ1 x k t n) k p q).1 20 k 15 = q := by
  unfold cCharge
  by_cases h : q = 0
  · subst h
    rw [if_neg (by decide), if_pos rfl]
    unfold cJ1
    simp only [cI_r]
    simp
  · have h0 : 0 < q := by
      rw [hq.1]
      refine (nI_ltI (a := 0) (by omega) (by have := hq.2; omega)).mpr ?_
      rcases Nat.eq_zero_or_pos (sI q) with e | e
      · exact absurd (by rw [hq.1, e]; rfl) h
      · exact e
    rw [if_pos h0, if_neg h]
    unfold cJ1
    simp only [cI_r]
    simp
/-- the judgement -/
theorem rel_judge (h : Rel n T x v) {K : Nat} (hK : K < 5) (h36 : ¬ v.2.1 36 K = 0) : (clJ9 x T K (sI (v.2.1 32 K)) (sI (v.2.1 38 K))).1 20 K 13 = zI (clG T (fun k => sI (v.2.1 32 k)) v K) ∧ (clJ9 x T K (sI (v.2.1 32 K)) (sI (v.2.1 38 K))).1 20 K 14 = clW T (fun k => sI (v.2.1 32 k)) v K ∧ (clJ9 x T K (sI (v.2.1 32 K)) (sI (v.2.1 38 K))).1 20 K 15 = (clWM T (fun k => sI (v.2.1 32 k)) v K).2 ∧ nn (clWM T (fun k => sI (v.2.1 32 k)) v K).2 2000000 := by
  obtain ⟨a, b, c9, d, ⟨e1, e2, e3, e4, e5, e6, e7, e8⟩, f, g, o⟩ := h.rk _ hK
  obtain ⟨o1, o2, o3, o4, o5, o6, o7, o8, o9⟩ := o h36
  have hN := a.2.2.2.1.2
  have h5 := o3.2
  have c0 : cnt (cCt x K) (sI (v.2.1 32 K)) = mDiscs v K 0 (sI (v.2.1 32 K)) := cnt_congr (fun i hi => (rel_ct h hK (by omega)).1)
  have c1 : cnt (cCv x K) (sI (v.2.1 32 K)) = mDiscs v K 1 (sI (v.2.1 32 K)) := cnt_congr (fun i hi => (rel_ct h hK (by omega)).2.1)
  have l3 : x.1 26 (cFo x (v.1 14) T) 3 = mLaw v (v.1 14) T 3 := rel_val h _ (by decide)
  have l2 : x.1 26 (cFo x (v.1 14) T) 2 = mLaw v (v.1 14) T 2 := rel_val h _ (by decide)
  have l4 : x.1 26 (cFo x (v.1 14) T) (40 + sI (v.2.1 38 K)) = mLaw v (v.1 14) T (22 + sI (v.2.1 38 K)) := by
    rw [rel_val h _ (by omega)]
    exact (lwv_k _ _ _ (by omega)).2.2.2
  have n2 : nn (mLaw v (v.1 14) T 2) 2000000 := by
    have := lok_nn (rel_lok h (v.1 14) (z := 2) (by omega)) (by omega)
    exact ⟨this.1, by have := this.2; omega⟩
  have n4 : nn (mLaw v (v.1 14) T (22 + sI (v.2.1 38 K)) + v.2.1 41 K) 2000000 := by
    have := lok_nn (rel_lok h (v.1 14) (z := 22 + sI (v.2.1 38 K)) (by omega)) (by omega)
    exact nn_add this o6 (by have := this.2; have := o6.2; omega) (by omega)
  have eg : cGu x K (cFo x (v.1 14) T) (sI (v.2.1 32 K)) = clG T (fun k => sI (v.2.1 32 k)) v K := by
    unfold cGu clG
    rw [c0, c1, l3, Bool.and_comm]
  unfold clJ9 clT9
  rw [h.rs.2.2.2.1]
  unfold cJudge clW clWM
  rw [eg, c0, c1, e2, e3, e4, l2, l4]
  by_cases hg : clG T (fun k => sI (v.2.1 32 k)) v K = true
  · rw [if_pos hg, if_pos hg]
    obtain ⟨q1, q2, q3⟩ := cCharge_v x K (cFo x (v.1 14) T) (sI (v.2.1 32 K)) (v.2.1 40 K) _ n4
    rw [q1, q2, q3, eg]
    exact ⟨rfl, rfl, rfl, n4⟩
  · rw [if_neg hg, if_neg hg]
    by_cases h2 : 5 * mDiscs v K 1 (sI (v.2.1 32 K)) < mDiscs v K 0 (sI (v.2.1 32 K))
    · rw [if_pos h2, if_pos h2]
      obtain ⟨q1, q2, q3⟩ := cCharge_v x K (cFo x (v.1 14) T) (sI (v.2.1 32 K)) (v.2.1 39 K) _ n2
      rw [q1, q2, q3, eg]
      exact ⟨rfl, rfl, rfl, n2⟩
    · rw [if_neg h2, if_neg h2]
      unfold cJ1
      simp only [cI_r]
      rw [eg]
      simp
      exact ⟨rfl, Nat.zero_le _⟩
end REC
