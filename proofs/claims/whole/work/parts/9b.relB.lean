/-! owe -/
section REB
variable {n T : Nat} {x x' : cS} {v v' : mS}
theorem rel_lay (h : Rel n T x v) {c : Nat} (hc : c < n) (q : Int32) (hq : nn (v.2.1 20 c + q) 2000000000) : Rel n T (cAddD x (fun k => sI (v.2.1 32 k)) (fun k => sI (x.1 20 k 5)) c q) (mLay v (fun k => sI (v.2.1 32 k)) c q) := by
  have hns : ∀ k, k < 5 → (fun k => sI (v.2.1 32 k)) k ≤ 25 := fun k hk => (h.rk k hk).1.2.2.2.1.2
  generalize hV : mLay v (fun k => sI (v.2.1 32 k)) c q = V
  generalize hX : cAddD x (fun k => sI (v.2.1 32 k)) (fun k => sI (x.1 20 k 5)) c q = X
  have V1 : V.1 = v.1 := by rw [← hV]; exact (mLay_keep _ _ _ _).1
  have V2 : V.2.2 = v.2.2 := by rw [← hV]; exact mLay_2 _ _ _ _
  have Vf : ∀ r, ¬ r = 20 → ¬ r = 35 → V.2.1 r = v.2.1 r := fun r a b => by rw [← hV]; exact (mLay_keep _ _ _ _).2 r a b
  have V20 : ∀ d, V.2.1 20 d = if d = c then v.2.1 20 c + q else v.2.1 20 d := fun d => by rw [← hV]; exact mLay_20 _ _ _ _ d
  have V35 : ∀ k, k < 5 → ∀ i, i < 25 → V.2.1 35 (25 * k + i) = if ¬ v.2.1 36 k = 0 ∧ i < sI (v.2.1 32 k) ∧ v.2.1 33 (25 * k + i) = nI c then 1 else v.2.1 35 (25 * k + i) := fun k hk i hi => by rw [← hV]; exact mLay_r _ _ _ _ hns hk hi
  have X22 : ∀ k, k < 5 → ∀ i, i < 25 → X.1 22 k i = if ¬ v.2.1 36 k = 0 ∧ i < sI (v.2.1 32 k) ∧ v.2.1 33 (25 * k + i) = nI c then 1 else x.1 22 k i := fun k hk i hi => by rw [← hX]; exact cAddD_r h hc q hk hi
  have Xo : ∀ a i s, ¬ a = 22 → X.1 a i s = if a = 24 ∧ i = c ∧ s = 5 then x.1 24 c 5 + q else x.1 a i s := fun a i s ha => by rw [← hX]; exact cAddD_o _ _ _ _ _ ha
  have Xf : ∀ a i s, ¬ a = 22 → ¬ a = 24 → X.1 a i s = x.1 a i s := fun a i s ha hb => by rw [Xo a i s ha, if_neg (fun q9 => hb q9.1)]
  have X2 : X.2 = x.2 := by rw [← hX]; exact cAddD_2 _ _ _ _ _
  have v0 := Vf 0 (by decide) (by decide)
  have v10 := Vf 10 (by decide) (by decide)
  have v11 := Vf 11 (by decide) (by decide)
  have v16 := Vf 16 (by decide) (by decide)
  have v17 := Vf 17 (by decide) (by decide)
  have v18 := Vf 18 (by decide) (by decide)
  have v19 := Vf 19 (by decide) (by decide)
  have v21 := Vf 21 (by decide) (by decide)
  have v22 := Vf 22 (by decide) (by decide)
  have v23 := Vf 23 (by decide) (by decide)
  have v24 := Vf 24 (by decide) (by decide)
  have v25 := Vf 25 (by decide) (by decide)
  have v26 := Vf 26 (by decide) (by decide)
  have eC : mCame V = mCame v := by funext i; rw [mCame, mCame, v22]
  have eP : mColP V = mColP v := by funext t w i; rw [mColP, mColP, v16, v17, v22]
  have eA : mAtP V = mAtP v := by funext t w r i; rw [mAtP, mAtP, v16, v17, v22]
  refine ⟨?_, ?_, ?_, ⟨fun d hd => ?_, fun d hd1 hd2 => ?_, ?_⟩, ?_, ?_, ?_, fun k hk => ?_, RX_ext h.rx V1 (fun r hr => Vf r (by omega) (by omega)), ?_⟩
  · have := h.rs
    unfold RS at this ⊢
    simp only [V1, fun i s => Xf 0 i s (by decide) (by decide), fun i s => Xf 3 i s (by decide) (by decide)]
    exact this
  · have := h.rt
    unfold RT at this ⊢
    simp only [V1, fun i s => Xf 1 i s (by decide) (by decide), fun i s => Xf 2 i s (by decide) (by decide), v0]
    exact this
  · have := h.rl
    unfold RLw at this ⊢
    simp only [V1, X2, fun i s => Xf 6 i s (by decide) (by decide), fun i s => Xf 25 i s (by decide) (by decide), fun i s => Xf 26 i s (by decide) (by decide), v10, v11]
    exact this
  · by_cases hdc : d = c
    · rw [hdc]
      obtain ⟨g1, g2, g3, g4, g5, g6, g7, g8, g9, g10, g11, g12, g13, g14, g15, g16, g17⟩ := h.rc.1 _ hc
      unfold RC1
      rw [X2, v16, v17, v18, v19, v21, v22, v23, v24, V20, if_pos rfl]
      simp only [fun s => Xo 24 c s (by decide)]
      simp [g1, g2, g3, g4, g5, g6, g7, g8, g9, hq, g11, g12, g13, g14, g15, g16, g17]
    · exact RC1_ext (h.rc.1 d hd) (by rw [X2]) (fun s => by rw [Xo 24 d s (by decide), if_neg (fun q9 => hdc q9.2.1)]) (fun r a b => by
        by_cases hr : r = 20
        · rw [hr, V20, if_neg hdc]
        · rw [Vf r hr (by omega)])
  · have := h.rc.2.1 d hd1 hd2
    rw [v19, v21, v23, V20, if_neg (by omega)]
    exact this
  · have := h.rc.2.2
    unfold cRef at this ⊢
    rw [X2]
    exact this
  · have := h.rd
    unfold RD at this ⊢
    simp only [X2, fun i s => Xf 9 i s (by decide) (by decide), fun i s => Xf 11 i s (by decide) (by decide), fun i s => Xf 12 i s (by decide) (by decide), v22, v23, v24, v25, eC, eP]
    exact this
  · have := h.rp
    unfold RP at this ⊢
    simp only [v16, v17, v22, eP, eA]
    exact this
  · have := h.rh
    unfold RH at this ⊢
    simp only [V1, X2, fun i s => Xf 9 i s (by decide) (by decide), v16, v22, v25, v26]
    exact this
  · obtain ⟨a, b, c9, d, e, f, g, o⟩ := h.rk k hk
    have eH : mHasP V k = mHasP v k := by funext i; rw [mHasP, mHasP, Vf 34 (by decide) (by decide)]
    unfold RK1
    simp only [fun i s => Xf 18 i s (by decide) (by decide), fun i s => Xf 19 i s (by decide) (by decide), fun i s => Xf 20 i s (by decide) (by decide), fun i s => Xf 21 i s (by decide) (by decide), fun i s => Xf 23 i s (by decide) (by decide), eH, Vf 31 (by decide) (by decide), Vf 32 (by decide) (by decide), Vf 33 (by decide) (by decide), Vf 34 (by decide) (by decide), Vf 36 (by decide) (by decide), Vf 37 (by decide) (by decide), Vf 38 (by decide) (by decide), Vf 39 (by decide) (by decide), Vf 40 (by decide) (by decide), Vf 41 (by decide) (by decide), Vf 42 (by decide) (by decide), Vf 43 (by decide) (by decide), Vf 44 (by decide) (by decide), Vf 45 (by decide) (by decide), Vf 46 (by decide) (by decide), Vf 47 (by decide) (by decide)]
    refine ⟨a, b, fun i hi => ⟨(c9 i hi).1, ?_⟩, d, e, f, g, o⟩
    rw [X22 k hk i hi, V35 k hk i hi, (c9 i hi).2]
  · have := h.rw
    unfold RW at this ⊢
    rw [V2]
    exact this
theorem okOwe_iff (h : Rel n T x v) (t q day : Int32) : okOwe9 x n t q day ↔ okOwe n v t q day = true := by
  unfold okOwe9 okOwe
  by_cases h1 : isC n t = true
  · obtain ⟨hc, -⟩ := isC_x h.rs.2.2.1 h1
    obtain ⟨g1, g2, g3, g4, g5, g6, g7, g8, g9, g10, -⟩ := h.rc.1 _ hc
    rw [g9, h.rs.2.2.2.1]
    simp only [Bool.and_eq_true_iff, decide_eq_true_iff, inR_b (lo := 1) (hi := 1000000000) (q := q), inR_b (lo := 0) (q := day), Int32.not_lt, le_toI]
    have e1 : (1 : Int32).toInt = 1 := rfl
    have e2 : (1000000000 : Int32).toInt = 1000000000 := rfl
    have e3 : (0 : Int32).toInt = 0 := rfl
    have e4 : (2000000000 - v.2.1 20 (sI t)).toInt = 2000000000 - (v.2.1 20 (sI t)).toInt := by
      have a1 := nn_pos g10 (by omega)
      have a2 : (v.2.1 20 (sI t)).toInt ≤ 2000000000 := by
        have := g10.2
        have a3 : v.2.1 20 (sI t) ≤ nI 2000000000 := by rw [g10.1]; exact nI_le this (by omega)
        exact le_toI.mp a3
      rw [Int32.toInt_sub]
      have e5 : (2000000000 : Int32).toInt = 2000000000 := rfl
      rw [e5]
      exact Int.bmod_eq_of_le (by omega) (by omega)
    rw [e1, e2, e3, e4]
    constructor
    · rintro ⟨a, b, c, d, e, f⟩; exact ⟨a, ⟨d, e⟩, ⟨b, c⟩, by omega⟩
    · rintro ⟨a, ⟨d, e⟩, ⟨b, c⟩, f⟩; exact ⟨a, b, c, d, e, by omega⟩
  · constructor
    · intro q9; exact absurd q9.1 h1
    · intro q9; exact absurd (Bool.and_eq_true_iff.mp q9).1 h1
theorem nn_i {z : Int32} {N : Nat} (h : nn z N) (hN : N < 2 ^ 31) : z.toInt = sI z := by
  have h1 := h.1
  have h2 := h.2
  have : 0 ≤ z.toInt := nn_pos h hN
  have e : sI z = z.toInt.toNat := rfl
  omega
theorem nn_add {a b : Int32} {A B N : Nat} (ha : nn a A) (hb : nn b B) (h : sI a + sI b ≤ N) (hN : N < 2 ^ 31) : nn (a + b) N := by
  have e : a + b = nI (sI a + sI b) := by rw [← nI_add, ← ha.1, ← hb.1]
  exact nn_of e h hN
theorem rel_owe (h : Rel n T x v) (t q day : Int32) (ok : okOwe9 x n t q day) : x.1 24 (sI t) 5 + q = (spOwe n (fun k => sI (v.2.1 32 k)) v t q day).1 ∧ Rel n T (cAddD x (fun k => sI (v.2.1 32 k)) (fun k => sI (x.1 20 k 5)) (sI t) q) (spOwe n (fun k => sI (v.2.1 32 k)) v t q day).2 := by
  have ok2 := (okOwe_iff h t q day).mp ok
  unfold spOwe
  rw [if_pos ok2]
  obtain ⟨hc, -⟩ := isC_x h.rs.2.2.1 ok.1
  have g := h.rc.1 _ hc
  refine ⟨by rw [g.2.2.2.2.2.2.2.2.1], rel_lay h hc q ?_⟩
  have g10 := g.2.2.2.2.2.2.2.2.2.1
  unfold okOwe at ok2
  simp only [Bool.and_eq_true_iff, decide_eq_true_iff, inR_b (lo := 1) (hi := 1000000000) (q := q)] at ok2
  obtain ⟨-, ⟨q1, q2⟩, -, q3⟩ := ok2
  have e0 : (0 : Int32).toInt = 0 := rfl
  obtain ⟨j, hj, ej⟩ := nI_of (x := q) (fun q9 => by
    have := Int32.lt_iff_toInt_lt.mp q9
    omega)
  have hqn : nn q (2 ^ 31 - 1) := nn_of ej (by omega) (by omega)
  rw [nn_i g10 (by omega), nn_i hqn (by omega)] at q3
  exact nn_add g10 hqn (by omega) (by omega)
end REB
