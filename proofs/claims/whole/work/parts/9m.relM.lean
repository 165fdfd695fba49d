/-! laws: both states behind the reading -/
section REM
variable {n T z : Nat} {x x' : cS} {v v' : mS}
theorem fPl_lwv : ∀ w, w < 51 → fPl w = lwv (fun i => mPlain (nI i)) (-1) w := by decide +kernel
theorem forget_i (x : cS) {w : Nat} (hw : w < 51) : (cForget x 0).1 26 0 w = fPl w := by
  unfold fPl cForget cFgK cFgK cFgK cFgK cFgK cFgK cFgK cFg0
  simp only [cI_r, cF_r, hw, and_true, true_and, if_true]
theorem lwD_r (v : mS) : ∀ k i, i < k → (lwD v k).2.1 10 (420 + i) = mPlain (nI i)
  | 0, i, h => by omega
  | k + 1, i, h => by
    rw [lwD, mrU_r]
    by_cases e : i = k
    · rw [if_pos ⟨rfl, by rw [e]⟩, e]
    · rw [if_neg (fun q => e (by omega))]; exact lwD_r v k i (by omega)
theorem lwD_o (v : mS) : ∀ k, KP (lwD v k) v
  | 0 => KP.rf v
  | k + 1 => (lwD_o v k).r10 _ _ (by omega)
theorem lwT_o (v : mS) : ∀ k, KP (lwT v k) v ∧ (lwT v k).2.1 10 = v.2.1 10
  | 0 => ⟨KP.rf v, rfl⟩
  | k + 1 => ⟨(lwT_o v k).1.r13 _ _, by rw [lwT, mrU_f _ _ _ _ (by decide)]; exact (lwT_o v k).2⟩
theorem lwT_r (v : mS) : ∀ k i, i < k → (lwT v k).2.1 13 i = 0
  | 0, i, h => by omega
  | k + 1, i, h => by
    rw [lwT, mrU_r]
    by_cases e : i = k
    · rw [if_pos ⟨rfl, e⟩]
    · rw [if_neg (fun q => e q.2)]; exact lwT_r v k i (by omega)
theorem rel_start (h : Rel n T x v) : Q0 (sI (v.1 1)) (cStart x) (lwA v) := by
  have hT := (lwT_o (lwD (miU (miU (miU (lwS v) 8 0) 9 (-1)) 6 0) 28) 10)
  have hD := lwD_o (miU (miU (miU (lwS v) 8 0) 9 (-1)) 6 0) 28
  have e1 : (lwA v).1 = (miU (miU (miU (lwS v) 8 0) 9 (-1)) 6 0).1 := by unfold lwA; rw [lwT_1, lwD_1]
  have e0 : (lwA v).2.1 0 = v.2.1 0 := by unfold lwA; rw [hT.1.2.1 0 (by decide) (by decide), hD.2.1 0 (by decide) (by decide)]; rfl
  have e10 : ∀ i, i < 28 → (lwA v).2.1 10 (420 + i) = mPlain (nI i) := fun i hi => by unfold lwA; rw [hT.2]; exact lwD_r _ 28 i hi
  have k2 : ∀ j, (cStart x).1 2 0 j = x.1 2 0 j := fun j => (kr_start x).1 2 0 j (by decide) (by decide) (by decide) (by decide)
  refine ⟨fun j hj => ?_, h.rt.2.1.2, ⟨?_, ?_⟩, ⟨?_, ?_⟩, ⟨fun w hw => ?_, fun k hk => ?_⟩, fun w hw => ?_, fun i hi => ?_⟩
  · rw [k2, e0]; exact h.rt.2.2 j hj
  · rw [(cStart_u x).2, e1]; rfl
  · rw [e1]; exact ⟨rfl, Nat.zero_le _⟩
  · rw [e1]; unfold cStart; simp [cI_r]; rfl
  · rw [e1]; unfold cStart; simp [cI_r]; rfl
  · have : (lwA v).2.1 13 w = 0 := by unfold lwA; exact lwT_r _ 10 w (by omega)
    rw [this]; unfold cStart; simp [cI_r, cF_r, hw]
  · have : (lwA v).2.1 13 (4 + k) = 0 := by unfold lwA; exact lwT_r _ 10 (4 + k) (by omega)
    rw [this]; unfold cStart; simp [cI_r, cF_r, hk]
  · have a : (cStart x).1 26 0 w = (cForget x 0).1 26 0 w := by unfold cStart; simp [cI_r, cF_r]
    rw [a, forget_i x hw, fPl_lwv w hw]
    unfold lwv
    repeat' split
    all_goals first | rfl | exact (e10 _ (by omega)).symm
  · rw [e10 i hi]; exact mPlain_lok i hi
theorem rel_read (h : Rel n T x v) {X : cS} {V : mS} (hx : cKR X x) (hq : Q0 z X V) (h1 : V.1 1 = 0) (hv1 : ∀ i, 9 < i → V.1 i = v.1 i) (hv : ∀ s, s ≠ 10 → s ≠ 13 → V.2.1 s = v.2.1 s) (hv10 : ∀ i, i < 420 → V.2.1 10 i = v.2.1 10 i) (hv2 : V.2.2 = v.2.2) : Rel n T (cI X 1 0 1 0) V := by
  have X2 : (cI X 1 0 1 0).2 = x.2 := hx.2
  have Xf : ∀ a b c, a ≠ 3 → a ≠ 4 → a ≠ 5 → a ≠ 1 → (a = 26 → b ≠ 0) → (cI X 1 0 1 0).1 a b c = x.1 a b c := fun a b c a3 a4 a5 a1 a26 => by rw [cI_r, if_neg (fun q => a1 q.1)]; exact hx.1 a b c a3 a4 a5 a26
  have v16 := hv 16 (by decide) (by decide)
  have v17 := hv 17 (by decide) (by decide)
  have v18 := hv 18 (by decide) (by decide)
  have v19 := hv 19 (by decide) (by decide)
  have v20 := hv 20 (by decide) (by decide)
  have v21 := hv 21 (by decide) (by decide)
  have v22 := hv 22 (by decide) (by decide)
  have v23 := hv 23 (by decide) (by decide)
  have v24 := hv 24 (by decide) (by decide)
  have v25 := hv 25 (by decide) (by decide)
  have v26 := hv 26 (by decide) (by decide)
  have eC : mCame V = mCame v := by funext i; rw [mCame, mCame, v22]
  have eP : mColP V = mColP v := by funext t w i; rw [mColP, mColP, v16, v17, v22]
  have eA : mAtP V = mAtP v := by funext t w r i; rw [mAtP, mAtP, v16, v17, v22]
  refine ⟨?_, ⟨?_, ?_, fun j hj => ?_⟩, ?_, ?_, ?_, ?_, ?_, fun k hk => ?_, RX_ext2 h.rx (hv1 28 (by decide)) (fun r hr => hv r (by omega) (by omega)), ?_⟩
  · obtain ⟨s1, s2, s3, s4, s5, s6, s7, s8, s9⟩ := h.rs
    unfold RS
    rw [hv1 15 (by decide), hv1 14 (by decide), hv1 48 (by decide), hv1 49 (by decide), Xf 0 0 7 (by decide) (by decide) (by decide) (by decide) (by omega), Xf 0 0 8 (by decide) (by decide) (by decide) (by decide) (by omega), Xf 0 0 9 (by decide) (by decide) (by decide) (by decide) (by omega), Xf 0 0 10 (by decide) (by decide) (by decide) (by decide) (by omega)]
    exact ⟨s1, s2, s3, s4, s5, s6, s7, hq.2.2.2.1.1, hq.2.2.2.1.2⟩
  · rw [h1, cI_r, if_pos ⟨rfl, rfl, rfl⟩]
  · rw [h1]; exact ⟨rfl, Nat.zero_le _⟩
  · exact hq.1 j hj
  · obtain ⟨q1, q2, q3, q4, q5, q6⟩ := h.rl
    unfold RLw
    rw [X2, hv1 12 (by decide), Xf 6 0 2 (by decide) (by decide) (by decide) (by decide) (by omega), hv 11 (by decide) (by decide), Xf 25 1 1 (by decide) (by decide) (by decide) (by decide) (by omega)]
    refine ⟨q1, q2, q3, fun j hj => ?_, q5, fun w hw => ?_⟩
    · obtain ⟨r1, r2, r3, r4, r5⟩ := q4 j hj
      rw [Xf 25 (j + 2) 1 (by decide) (by decide) (by decide) (by decide) (by omega)]
      refine ⟨r1, r2, r3, fun w hw => ?_, fun i hi => ?_⟩
      · rw [Xf 26 (j + 2) w (by decide) (by decide) (by decide) (by decide) (fun _ => by omega), r4 w hw]
        unfold lwv
        repeat' split
        all_goals first | rfl | exact (hv10 _ (by omega)).symm
      · rw [hv10 _ (by omega)]; exact r5 i hi
    · rw [Xf 26 1 w (by decide) (by decide) (by decide) (by decide) (by omega)]; exact q6 w hw
  · have := h.rc
    unfold RC RC1 cRef at this ⊢
    simp only [X2, fun b c => Xf 24 b c (by decide) (by decide) (by decide) (by decide) (by omega), v16, v17, v18, v19, v20, v21, v22, v23, v24]
    exact this
  · have := h.rd
    unfold RD at this ⊢
    simp only [X2, fun b c => Xf 9 b c (by decide) (by decide) (by decide) (by decide) (by omega), fun b c => Xf 11 b c (by decide) (by decide) (by decide) (by decide) (by omega), fun b c => Xf 12 b c (by decide) (by decide) (by decide) (by decide) (by omega), v22, v23, v24, v25, eC, eP]
    exact this
  · have := h.rp
    unfold RP at this ⊢
    simp only [v16, v17, v22, eP, eA]
    exact this
  · have := h.rh
    unfold RH at this ⊢
    simp only [X2, hv1 27 (by decide), hv1 28 (by decide), fun b c => Xf 9 b c (by decide) (by decide) (by decide) (by decide) (by omega), v16, v22, v25, v26]
    exact this
  · exact RK1_ext (h.rk k hk) (fun κ a b s => Xf κ k s (by omega) (by omega) (by omega) (by omega) (by omega)) (fun r a b j _ => by rw [hv r (by omega) (by omega)])
  · have := h.rw
    unfold RW at this ⊢
    rw [hv2]
    exact this
end REM
