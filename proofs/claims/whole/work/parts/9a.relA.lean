/-! debts -/
section REA
variable {n T : Nat} {x x' : cS} {v v' : mS}
theorem fstn_p {p : Nat → Bool} {n : Nat} (h : fstn p n 0 < n) : p (fstn p n 0) = true := by
  have g : ∀ n k, fstn p n k < k + n → p (fstn p n k) = true := fun n => by
    induction n with
    | zero => intro k hk; rw [fstn] at hk; omega
    | succ n ih =>
      intro k hk
      rw [fstn] at hk ⊢
      by_cases hp : p k = true
      · rw [if_pos hp]; exact hp
      · rw [if_neg hp] at hk ⊢; exact ih (k + 1) (by omega)
  exact g n 0 (by omega)
theorem layI_r (c : Int32) (k : Nat) (v : mS) (b : Nat) : ∀ i, (layI c k i v).2.1 35 b = if 25 * k ≤ b ∧ b < 25 * k + i ∧ v.2.1 33 b = c then 1 else v.2.1 35 b
  | 0 => by rw [if_neg (by omega)]; rfl
  | i + 1 => by
    rw [layI]
    by_cases h1 : v.2.1 33 (25 * k + i) = c
    · rw [if_pos h1, mrU_r, layI_r c k v b i]
      by_cases hb : b = 25 * k + i
      · rw [if_pos ⟨rfl, hb⟩, if_pos ⟨by omega, by omega, by rw [hb]; exact h1⟩]
      · rw [if_neg (fun q => hb q.2)]
        by_cases hh : 25 * k ≤ b ∧ b < 25 * k + i ∧ v.2.1 33 b = c
        · rw [if_pos hh, if_pos ⟨hh.1, by omega, hh.2.2⟩]
        · rw [if_neg hh, if_neg (fun q => hh ⟨q.1, by omega, q.2.2⟩)]
    · rw [if_neg h1, layI_r c k v b i]
      by_cases hh : 25 * k ≤ b ∧ b < 25 * k + i ∧ v.2.1 33 b = c
      · rw [if_pos hh, if_pos ⟨hh.1, by omega, hh.2.2⟩]
      · rw [if_neg hh, if_neg (fun q => hh ⟨q.1, by
          have : ¬ b = 25 * k + i := fun q9 => h1 (by rw [← q9]; exact q.2.2)
          omega, q.2.2⟩)]
theorem layK_r (c : Int32) (ns : Nat → Nat) (v : mS) (hns : ∀ k, k < 5 → ns k ≤ 25) (k i : Nat) (hi : i < 25) : ∀ m, m ≤ 5 → (layK c ns m v).2.1 35 (25 * k + i) = if k < m ∧ ¬ v.2.1 36 k = 0 ∧ i < ns k ∧ v.2.1 33 (25 * k + i) = c then 1 else v.2.1 35 (25 * k + i)
  | 0, _ => by rw [if_neg (by omega)]; rfl
  | m + 1, hm => by
    have ih := layK_r c ns v hns k i hi m (by omega)
    have h25 := hns m (by omega)
    rw [layK]
    by_cases h1 : v.2.1 36 m = 0
    · rw [if_pos h1, ih]
      by_cases hh : k < m ∧ ¬ v.2.1 36 k = 0 ∧ i < ns k ∧ v.2.1 33 (25 * k + i) = c
      · rw [if_pos hh, if_pos ⟨by omega, hh.2⟩]
      · rw [if_neg hh, if_neg (fun q => hh ⟨by
          have : ¬ k = m := fun q9 => q.2.1 (by rw [q9]; exact h1)
          omega, q.2⟩)]
    · rw [if_neg h1, layI_r, (layK_keep c ns m v).2.1 33 (by omega), ih]
      by_cases hk : k = m
      · subst hk
        by_cases hh : i < ns k ∧ v.2.1 33 (25 * k + i) = c
        · rw [if_pos ⟨by omega, by omega, hh.2⟩, if_pos ⟨by omega, h1, hh⟩]
        · rw [if_neg (fun q => hh ⟨by omega, q.2.2⟩), if_neg (fun q => by omega), if_neg (fun q => hh q.2.2)]
      · rw [if_neg (fun q => hk (by omega))]
        by_cases hh : k < m ∧ ¬ v.2.1 36 k = 0 ∧ i < ns k ∧ v.2.1 33 (25 * k + i) = c
        · rw [if_pos hh, if_pos ⟨by omega, hh.2⟩]
        · rw [if_neg hh, if_neg (fun q => hh ⟨by omega, q.2⟩)]
theorem mLay_r (v : mS) (ns : Nat → Nat) (c : Nat) (q : Int32) (hns : ∀ k, k < 5 → ns k ≤ 25) {k i : Nat} (hk : k < 5) (hi : i < 25) : (mLay v ns c q).2.1 35 (25 * k + i) = if ¬ v.2.1 36 k = 0 ∧ i < ns k ∧ v.2.1 33 (25 * k + i) = nI c then 1 else v.2.1 35 (25 * k + i) := by
  unfold mLay
  rw [layK_r _ _ _ hns k i hi 5 (by omega), mrU_f _ _ _ _ (show ¬ 36 = 20 by omega), mrU_f _ _ _ _ (show ¬ 33 = 20 by omega), mrU_f _ _ _ _ (show ¬ 35 = 20 by omega)]
  by_cases hh : ¬ v.2.1 36 k = 0 ∧ i < ns k ∧ v.2.1 33 (25 * k + i) = nI c
  · rw [if_pos ⟨hk, hh⟩, if_pos hh]
  · rw [if_neg (fun q => hh q.2), if_neg hh]
theorem mLay_20 (v : mS) (ns : Nat → Nat) (c : Nat) (q : Int32) (d : Nat) : (mLay v ns c q).2.1 20 d = if d = c then v.2.1 20 c + q else v.2.1 20 d := by
  unfold mLay
  rw [(layK_keep _ _ _ _).2.1 20 (by omega), mrU_r]
  simp
theorem mLay_2 (v : mS) (ns : Nat → Nat) (c : Nat) (q : Int32) : (mLay v ns c q).2.2 = v.2.2 := (layK_keep _ _ _ _).2.2
/-- the landed program's word, place by place -/
theorem cAddD_r (h : Rel n T x v) {c : Nat} (hc : c < n) (q : Int32) {k i : Nat} (hk : k < 5) (hi : i < 25) : (cAddD x (fun k => sI (v.2.1 32 k)) (fun k => sI (x.1 20 k 5)) c q).1 22 k i = if ¬ v.2.1 36 k = 0 ∧ i < sI (v.2.1 32 k) ∧ v.2.1 33 (25 * k + i) = nI c then 1 else x.1 22 k i := by
  have hn := h.rs.2.2.1
  obtain ⟨g1, g2, g3, g4, g5, g6, g7, g8, g9, g10, g11, g12, g13, g14, g15, g16, g17⟩ := h.rc.1 _ hc
  obtain ⟨x1, x2⟩ := h.rx
  have e24 : i < sI (v.2.1 32 k) → v.2.1 33 (25 * k + i) = nI c → v.2.1 24 c = nI k := fun a b => by
    have := (x1 k hk i a).1
    rw [b, sI_nI (by omega)] at this
    exact this
  unfold cAddD
  dsimp only
  rw [g14, g2]
  have o : (cOwe x c q).1 22 k i = x.1 22 k i := by unfold cOwe; rw [cI_r, if_neg (by omega)]
  by_cases hK : isK (v.2.1 24 c) = true
  · rw [if_pos hK]
    obtain ⟨hK5, eK⟩ := isK_x hK
    generalize hKK : sI (v.2.1 24 c) = K at hK5 eK
    obtain ⟨a, b, c9, ⟨d1, d2, d3⟩, e, f, g, o9⟩ := h.rk _ hK5
    have hN := a.2.2.2.1.2
    unfold cStrk
    rw [show (cOwe x c q).1 20 K 4 = v.2.1 36 K from d2]
    rw [rel_fInt h hK5]
    by_cases h36 : v.2.1 36 K = 0
    · rw [if_neg (fun q9 => q9.1 h36), o, if_neg (fun q9 => by
        have e1 := e24 q9.2.1 q9.2.2
        rw [eK] at e1
        have e2 : K = k := by rw [← sI_nI (k := K) (by omega), e1]; exact sI_nI (by omega)
        rw [← e2] at q9
        exact q9.1 h36)]
    · have e5 := (g (o9 h36).1).1
      rw [e5]
      generalize hs : fstn (mSeatP v K (nI c)) (sI (v.2.1 32 K)) 0 = s
      by_cases h2 : s < sI (v.2.1 32 K)
      · have ef : fInt (mSeatP v K (nI c)) (sI (v.2.1 32 K)) = nI s := by rw [← hs]; exact fInt_s (by rw [hs]; exact h2)
        have hps : v.2.1 33 (25 * K + s) = nI c := by
          have := fstn_p (p := mSeatP v K (nI c)) (n := sI (v.2.1 32 K)) (by rw [hs]; exact h2)
          rw [hs] at this
          exact of_decide_eq_true this
        rw [ef, if_pos ⟨h36, isC_nI (by omega) h2⟩, sI_nI (by omega), cI_r]
        by_cases hh : k = K ∧ i = s
        · rw [if_pos ⟨rfl, hh.1, hh.2⟩, if_pos ⟨by rw [hh.1]; exact h36, by rw [hh.1, hh.2]; exact h2, by rw [hh.1, hh.2]; exact hps⟩]
        · rw [if_neg (fun q9 => hh q9.2), o, if_neg (fun q9 => hh (by
            have e1 := e24 q9.2.1 q9.2.2
            rw [eK] at e1
            have e2 : K = k := by rw [← sI_nI (k := K) (by omega), e1]; exact sI_nI (by omega)
            rw [← e2] at q9
            exact ⟨e2.symm, x2 K hK5 i q9.2.1 s h2 (by rw [q9.2.2, hps])⟩))]
      · have ef : fInt (mSeatP v K (nI c)) (sI (v.2.1 32 K)) = -1 := (fInt_m1 (by omega)).mpr (by rw [hs]; exact h2)
        rw [ef, if_neg (fun q9 => by rw [isC_m1 _ (by omega)] at q9; exact absurd q9.2 (by decide)), o, if_neg (fun q9 => by
            have e1 := e24 q9.2.1 q9.2.2
            rw [eK] at e1
            have e2 : K = k := by rw [← sI_nI (k := K) (by omega), e1]; exact sI_nI (by omega)
            rw [← e2] at q9
            have e3 := fstn_none (p := mSeatP v K (nI c)) (n := sI (v.2.1 32 K)) (c := i) (by rw [hs]; omega) q9.2.1
            exact absurd q9.2.2 (of_decide_eq_false e3))]
  · rw [if_neg hK, o, if_neg (fun q9 => hK (by rw [e24 q9.2.1 q9.2.2]; exact isC_nI (by omega) hk))]
theorem cAddD_o (x : cS) (ns se : Nat → Nat) (c : Nat) (q : Int32) {a i s : Nat} (ha : ¬ a = 22) : (cAddD x ns se c q).1 a i s = if a = 24 ∧ i = c ∧ s = 5 then x.1 24 c 5 + q else x.1 a i s := by
  unfold cAddD cStrk
  split
  · split
    · rw [cI_r, if_neg (fun q9 => ha q9.1)]; rfl
    · rfl
  · rfl
theorem cAddD_2 (x : cS) (ns se : Nat → Nat) (c : Nat) (q : Int32) : (cAddD x ns se c q).2 = x.2 := by
  unfold cAddD cStrk
  split
  · split <;> rfl
  · rfl
end REA
