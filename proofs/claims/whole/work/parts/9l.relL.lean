/-! laws: the token -/
section REL9
variable {z : Nat} {x x' : cS} {v v' : mS}
theorem alln_cg {p q : Nat → Bool} : ∀ {n : Nat}, (∀ i, i < n → p i = q i) → alln p n = alln q n
  | 0, _ => rfl
  | n + 1, h => by rw [alln, alln, alln_cg (fun i hi => h i (by omega)), h n (by omega)]
theorem alln_t {p : Nat → Bool} : ∀ {n : Nat}, alln p n = true → ∀ i, i < n → p i = true
  | 0, _, i, hi => by omega
  | n + 1, h, i, hi => by
    rw [alln, Bool.and_eq_true_iff] at h
    by_cases e : i = n
    · rw [e]; exact h.2
    · exact alln_t h.1 i (by omega)
theorem wd_len : ∀ j, j < 10 → (cTx j).length = wLn j := by decide
theorem wd_chr : ∀ j, j < 10 → ∀ i, i < 7 → i < wLn j → chr (cTx j) i = chr wTx (wFr j + i) ∧ ∃ c, c < 26 ∧ chr (cTx j) i = nI (97 + c) := by decide +kernel
theorem wd_l7 : ∀ j, j < 10 → wLn j ≤ 7 := by decide
theorem wd_ne : ∀ j, j < 10 → ∀ k, k < 10 → wLn j = wLn k → (∀ i, i < 7 → i < wLn j → chr wTx (wFr j + i) = chr wTx (wFr k + i)) → j = k := by decide +kernel
theorem wd_ok (h : Q0 z x v) {P n j : Nat} (hj : j < 10) : (decide (n = (cTx j).length) && alln (fun i => cWi x z (chr (cTx j) i) (chr (cTx j) i) (P + i)) (cTx j).length) = wOk v z P n j := by
  unfold wOk
  rw [wd_len j hj]
  by_cases hn : n = wLn j
  · rw [decide_eq_true hn, decide_eq_true hn.symm, hn, Bool.true_and, Bool.true_and]
    refine alln_cg (fun i hi => ?_)
    obtain ⟨e, c, hc, ec⟩ := wd_chr j hj i (by have := wd_l7 j hj; omega) hi
    rw [wEq, ← e, ec]
    exact q_ch h (P + i) hc
  · rw [decide_eq_false hn, decide_eq_false (fun q => hn q.symm), Bool.false_and, Bool.false_and]
theorem wd_key {P n j : Nat} (hj : j < 10) : (¬ mKey v z P n = -1 ∧ mKey v z P n = nI j) ↔ wOk v z P n j = true := by
  unfold mKey
  constructor
  · rintro ⟨h1, h2⟩
    have hlt : fstn (wOk v z P n) 10 0 < 10 := Classical.byContradiction (fun q => h1 ((fInt_m1 (by omega)).mpr q))
    rw [fInt_s hlt] at h2
    have e := congrArg sI h2
    rw [sI_nI (by omega), sI_nI (by omega)] at e
    rw [← e]; exact fstn_p hlt
  · intro h1
    have hle := fstn_le (p := wOk v z P n) 10 0 j (Nat.zero_le _) (by omega) h1
    have hlt : fstn (wOk v z P n) 10 0 < 10 := by omega
    have hp := fstn_p hlt
    rw [fInt_s hlt]
    have hjj : fstn (wOk v z P n) 10 0 = j := by
      generalize fstn (wOk v z P n) 10 0 = k at hp hlt hle
      unfold wOk at hp h1
      rw [Bool.and_eq_true_iff, decide_eq_true_iff] at hp h1
      refine wd_ne k hlt j hj (by rw [hp.1, h1.1]) (fun i _ hi => ?_)
      have a := alln_t hp.2 i (by omega)
      have b := alln_t h1.2 i (by have := hp.1; omega)
      rw [wEq, decide_eq_true_iff] at a b
      rw [a, b]
    rw [hjj]
    exact ⟨nI_ne1 (by omega), rfl⟩
theorem Q0_ext (h : Q0 z x v) (h1 : ∀ a b c, a ≠ 3 → x'.1 a b c = x.1 a b c) (h2 : x'.1 3 0 4 = x.1 3 0 4 ∧ x'.1 3 0 5 = x.1 3 0 5) (h3 : v'.2 = v.2) (h4 : v'.1 8 = v.1 8 ∧ v'.1 9 = v.1 9) {E : Nat} (hE : E ≤ 1000) (h8 : x'.1 3 0 8 = nI E) (h6 : v'.1 6 = nI E) : Q0 z x' v' := by
  obtain ⟨a, b, c, d, e, f, g⟩ := h
  unfold Q0
  simp only [fun b c => h1 2 b c (by decide), fun b c => h1 4 b c (by decide), fun b c => h1 5 b c (by decide), fun b c => h1 26 b c (by decide), h2.1, h2.2, h3, h4.1, h4.2, h8, h6]
  exact ⟨a, b, ⟨trivial, nn_nI hE (by omega)⟩, d, e, f, g⟩
theorem cIsW_0 (x : cS) (j : Nat) (h : ¬ x.1 3 0 6 = 1) : cIsW z x j = false := by
  unfold cIsW
  rw [decide_eq_false h, Bool.false_and]
set_option maxHeartbeats 1000000 in
theorem q_adv (z : Nat) : QA z := fun x v h => by
  obtain ⟨e1, hP⟩ := q_bls h
  unfold cAdv scn spScan
  rw [e1]
  generalize scP v z (sI (v.1 6)) = P at hP
  have hz := h.2.1
  unfold cAdvS scS
  by_cases hPz : z ≤ P
  · rw [if_pos hPz, if_pos ((q_m1 h P).mpr hPz)]
    refine ⟨Q0_ext h (E := P) (fun a b c ha => ?_) ⟨?_, ?_⟩ rfl ⟨rfl, rfl⟩ hP ?_ rfl, ?_⟩
    · unfold cA2 cA1; simp [cI_r, ha]
    · unfold cA2 cA1; simp [cI_r]
    · unfold cA2 cA1; simp [cI_r]
    · unfold cA2 cA1; simp [cI_r]
    · unfold QT
      have e6 : (cI (cA2 x P P) 3 0 6 0).1 3 0 6 = 0 := by simp [cI_r]
      have e7 : (cI (cA2 x P P) 3 0 6 0).1 3 0 7 = nI P := by unfold cA2 cA1; simp [cI_r]
      have w3 : (miU (miU (miU v 5 (nI P)) 3 4) 6 (nI P)).1 3 = 4 := rfl
      have w5 : (miU (miU (miU v 5 (nI P)) 3 4) 6 (nI P)).1 5 = nI P := rfl
      rw [e6, e7, w3, w5]
      refine ⟨rfl, by decide, by decide, by decide, fun j hj => ?_, fun q => absurd q (by decide), fun q => absurd q (by decide)⟩
      rw [cIsW_0 _ _ (by rw [e6]; decide)]
      constructor
      · intro q; exact absurd q (by decide)
      · intro q; exact absurd q.1 (by decide)
  · rw [if_neg hPz, if_neg (fun q => hPz ((q_m1 h P).mp q))]
    by_cases hS : isSm (mSee v z P) = true
    · rw [q_sm h P, if_pos hS, if_pos hS]
      obtain ⟨r1, r2, r3, r4⟩ := q_run (f := isSm) (by decide) h (q_sm h) hS
      rw [r1]
      generalize pastOf isSm v z (P + 1) = E at r2 r3 r4
      refine ⟨Q0_ext h (E := E) (fun a b c ha => ?_) ⟨?_, ?_⟩ rfl ⟨rfl, rfl⟩ (by omega) ?_ rfl, ?_⟩
      · unfold cA2 cA1; simp [cI_r, ha]
      · unfold cA2 cA1; simp [cI_r]
      · unfold cA2 cA1; simp [cI_r]
      · unfold cA2 cA1; simp [cI_r]
      · unfold QT
        have e6 : (cI (cA2 x P E) 3 0 6 1).1 3 0 6 = 1 := by simp [cI_r]
        have e7 : (cI (cA2 x P E) 3 0 6 1).1 3 0 7 = nI P := by unfold cA2 cA1; simp [cI_r]
        have e8 : (cI (cA2 x P E) 3 0 6 1).1 3 0 8 = nI E := by unfold cA2 cA1; simp [cI_r]
        generalize hk : mKey v z P (E - P) = K
        have w3 : (miU (miU (miU (miU v 5 (nI P)) 4 K) 3 (if K = -1 then 0 else 1)) 6 (nI E)).1 3 = if K = -1 then 0 else 1 := rfl
        have w4 : (miU (miU (miU (miU v 5 (nI P)) 4 K) 3 (if K = -1 then 0 else 1)) 6 (nI E)).1 4 = K := rfl
        have w5 : (miU (miU (miU (miU v 5 (nI P)) 4 K) 3 (if K = -1 then 0 else 1)) 6 (nI E)).1 5 = nI P := rfl
        have i31 : (if K = -1 then (0 : Int32) else 1) = 1 ↔ ¬ K = -1 := by
          by_cases q : K = -1
          · rw [if_pos q]; simp [q]
          · rw [if_neg q]; simp [q]
        have i3n : ∀ a : Int32, ¬ a = 0 → ¬ a = 1 → ((1 : Int32) = a ↔ (if K = -1 then (0 : Int32) else 1) = a) := fun a h0 h1 => by
          constructor
          · intro q; exact absurd q.symm h1
          · intro q
            exfalso
            by_cases q2 : K = -1
            · rw [if_pos q2] at q; exact h0 q.symm
            · rw [if_neg q2] at q; exact h1 q.symm
        rw [e6, e7, w3, w4, w5]
        refine ⟨rfl, i3n 2 (by decide) (by decide), i3n 3 (by decide) (by decide), ?_, fun j hj => ?_, fun q => ?_, fun q => ?_⟩
        · constructor
          · intro q; exact absurd q (by decide)
          · intro q; exact absurd ((i3n 4 (by decide) (by decide)).mpr q) (by decide)
        · rw [i31, ← hk, wd_key hj, ← wd_ok h hj]
          unfold cIsW
          rw [e6, e7, e8, sI_nI (by omega), sI_nI (by omega), decide_eq_true (rfl : (1 : Int32) = 1), Bool.true_and]
          exact Iff.rfl
        · have hK := i31.mp q
          rw [← hk] at hK ⊢
          have hlt : fstn (wOk v z P (E - P)) 10 0 < 10 := Classical.byContradiction (fun q => hK ((fInt_m1 (by omega)).mpr q))
          unfold mKey
          rw [fInt_s hlt]
          exact nn_nI (by omega) (by omega)
        · exact absurd ((i3n 2 (by decide) (by decide)).mpr q) (by decide)
    · rw [q_sm h P, if_neg hS, if_neg hS]
      by_cases hD : isDg (mSee v z P) = true
      · rw [q_dg h P, if_pos hD, if_pos hD]
        obtain ⟨r1, r2, r3, r4⟩ := q_run (f := isDg) (by decide) h (q_dg h) hD
        rw [r1]
        generalize pastOf isDg v z (P + 1) = E at r2 r3 r4
        unfold cDg
        by_cases h5 : 5 < E - P
        · rw [if_pos h5, if_pos h5, if_pos rfl]
          refine ⟨Q0_ext h (E := E) (fun a b c ha => ?_) ⟨?_, ?_⟩ rfl ⟨rfl, rfl⟩ (by omega) ?_ rfl, ?_⟩
          · unfold cA2 cA1; simp [cI_r, ha]
          · unfold cA2 cA1; simp [cI_r]
          · unfold cA2 cA1; simp [cI_r]
          · unfold cA2 cA1; simp [cI_r]
          · unfold QT
            have e6 : (cI (cI (cA2 x P E) 3 0 9 0) 3 0 6 4).1 3 0 6 = 4 := by simp [cI_r]
            have e7 : (cI (cI (cA2 x P E) 3 0 9 0) 3 0 6 4).1 3 0 7 = nI P := by unfold cA2 cA1; simp [cI_r]
            generalize worF v z P (E - (P + 1)) = W
            have w3 : (miU (miU (miU (miU v 5 (nI P)) 7 W) 3 0) 6 (nI E)).1 3 = 0 := rfl
            have w5 : (miU (miU (miU (miU v 5 (nI P)) 7 W) 3 0) 6 (nI E)).1 5 = nI P := rfl
            rw [e6, e7, w3, w5]
            refine ⟨rfl, by decide, by decide, by decide, fun j hj => ?_, fun q => absurd q (by decide), fun q => absurd q (by decide)⟩
            rw [cIsW_0 _ _ (by rw [e6]; decide)]
            constructor
            · intro q; exact absurd q (by decide)
            · intro q; exact absurd q.1 (by decide)
        · rw [if_neg h5, if_neg h5, if_neg (show ¬ (1 : Int32) = 0 by decide)]
          have ew : dgs (cA2 x P E) P (E - P) = worF v z P (E - (P + 1)) := by
            have := q_wor h (P := P) (E - (P + 1)) (by omega) (fun i a b => r4 i a (by omega))
            rw [← this, show E - (P + 1) + 1 = E - P by omega]
            have g : ∀ d, dgs (cA2 x P E) P d = dgs x P d := fun d => by
              induction d with
              | zero => rfl
              | succ d ih => rw [dgs, dgs, ih]; unfold cA2 cA1; simp [cI_r]
            exact g _
          obtain ⟨w, hw, ew2⟩ := worF_b hD (E - (P + 1)) (fun i a b => r4 i (by omega) (by omega))
          rw [ew]
          refine ⟨Q0_ext h (E := E) (fun a b c ha => ?_) ⟨?_, ?_⟩ rfl ⟨rfl, rfl⟩ (by omega) ?_ rfl, ?_⟩
          · unfold cA2 cA1; simp [cI_r, ha]
          · unfold cA2 cA1; simp [cI_r]
          · unfold cA2 cA1; simp [cI_r]
          · unfold cA2 cA1; simp [cI_r]
          · unfold QT
            generalize worF v z P (E - (P + 1)) = W at ew2
            have e6 : (cI (cI (cA2 x P E) 3 0 9 W) 3 0 6 2).1 3 0 6 = 2 := by simp [cI_r]
            have e7 : (cI (cI (cA2 x P E) 3 0 9 W) 3 0 6 2).1 3 0 7 = nI P := by unfold cA2 cA1; simp [cI_r]
            have e9 : (cI (cI (cA2 x P E) 3 0 9 W) 3 0 6 2).1 3 0 9 = W := by simp [cI_r]
            have w3 : (miU (miU (miU (miU v 5 (nI P)) 7 W) 3 2) 6 (nI E)).1 3 = 2 := rfl
            have w5 : (miU (miU (miU (miU v 5 (nI P)) 7 W) 3 2) 6 (nI E)).1 5 = nI P := rfl
            have w7 : (miU (miU (miU (miU v 5 (nI P)) 7 W) 3 2) 6 (nI E)).1 7 = W := rfl
            rw [e6, e7, e9, w3, w5, w7]
            refine ⟨rfl, by decide, by decide, by decide, fun j hj => ?_, fun q => absurd q (by decide), fun _ => ⟨rfl, ?_⟩⟩
            · rw [cIsW_0 _ _ (by rw [e6]; decide)]
              constructor
              · intro q; exact absurd q (by decide)
              · intro q; exact absurd q.1 (by decide)
            · have : 10 ^ (min (E - (P + 1) + 1) 5) ≤ 10 ^ 5 := Nat.pow_le_pow_right (by omega) (by omega)
              exact nn_of ew2 (by omega) (by omega)
      · rw [q_dg h P, if_neg hD, if_neg hD, q_se h P]
        have hs : (if decide (mSee v z P = 59) = true then (3 : Int32) else 4) = if mSee v z P = 59 then 3 else 4 := by
          by_cases q : mSee v z P = 59
          · rw [if_pos (decide_eq_true q), if_pos q]
          · rw [if_neg (by rw [decide_eq_false q]; decide), if_neg q]
        rw [hs]
        refine ⟨Q0_ext h (E := P + 1) (fun a b c ha => ?_) ⟨?_, ?_⟩ rfl ⟨rfl, rfl⟩ (by omega) ?_ rfl, ?_⟩
        · unfold cA1; simp [cI_r, ha]
        · unfold cA1; simp [cI_r]
        · unfold cA1; simp [cI_r]
        · unfold cA1; simp [cI_r]
        · by_cases q : mSee v z P = 59
          · rw [if_pos q, if_pos q]
            unfold QT
            have e6 : (cI (cA1 x P) 3 0 6 3).1 3 0 6 = 3 := by simp [cI_r]
            have e7 : (cI (cA1 x P) 3 0 6 3).1 3 0 7 = nI P := by unfold cA1; simp [cI_r]
            have w3 : (miU (miU (miU v 5 (nI P)) 3 3) 6 (nI (P + 1))).1 3 = 3 := rfl
            have w5 : (miU (miU (miU v 5 (nI P)) 3 3) 6 (nI (P + 1))).1 5 = nI P := rfl
            rw [e6, e7, w3, w5]
            refine ⟨rfl, by decide, by decide, by decide, fun j hj => ?_, fun q => absurd q (by decide), fun q => absurd q (by decide)⟩
            rw [cIsW_0 _ _ (by rw [e6]; decide)]
            constructor
            · intro q; exact absurd q (by decide)
            · intro q; exact absurd q.1 (by decide)
          · rw [if_neg q, if_neg q]
            unfold QT
            have e6 : (cI (cA1 x P) 3 0 6 4).1 3 0 6 = 4 := by simp [cI_r]
            have e7 : (cI (cA1 x P) 3 0 6 4).1 3 0 7 = nI P := by unfold cA1; simp [cI_r]
            have w3 : (miU (miU (miU v 5 (nI P)) 3 0) 6 (nI (P + 1))).1 3 = 0 := rfl
            have w5 : (miU (miU (miU v 5 (nI P)) 3 0) 6 (nI (P + 1))).1 5 = nI P := rfl
            rw [e6, e7, w3, w5]
            refine ⟨rfl, by decide, by decide, by decide, fun j hj => ?_, fun q => absurd q (by decide), fun q => absurd q (by decide)⟩
            rw [cIsW_0 _ _ (by rw [e6]; decide)]
            constructor
            · intro q; exact absurd q (by decide)
            · intro q; exact absurd q.1 (by decide)
end REL9
