/-! lot -/
section RE6
variable {n T : Nat} {x x' : cS} {v v' : mS}
theorem miU_s (v : mS) (i : Nat) (z : Int32) : (miU v i z).2 = v.2 := rfl
theorem nn_succ {z : Int32} {N : Nat} (h : nn z N) (hN : N < 2 ^ 30) : z + 1 = nI (sI z + 1) ∧ sI (z + 1) = sI z + 1 ∧ nn (z + 1) (N + 1) := by
  have e : z + 1 = nI (sI z + 1) := by rw [h.1, nI_1, sI_nI (by have := h.2; omega)]
  have e2 : sI (z + 1) = sI z + 1 := by rw [e]; exact sI_nI (by have := h.2; omega)
  exact ⟨e, e2, nn_of e (by have := h.2; omega) (by omega)⟩
theorem nn_eq {a b : Int32} {A B : Nat} (ha : nn a A) (hb : nn b B) : a = b ↔ sI a = sI b := ⟨fun q => by rw [q], fun q => by rw [ha.1, hb.1, q]⟩
theorem nn_le {a b : Int32} {A B : Nat} (ha : nn a A) (hb : nn b B) (hA : A < 2 ^ 31) (hB : B < 2 ^ 31) : a ≤ b ↔ sI a ≤ sI b := by
  have h1 := ha.2
  have h2 := hb.2
  have h3 : (nI (sI a) ≤ nI (sI b)) ↔ sI a ≤ sI b := nI_leI (by omega) (by omega)
  rw [← ha.1, ← hb.1] at h3
  exact h3
theorem nn_isC {a b : Int32} {A B : Nat} (ha : nn a A) (hb : nn b B) (hB : B < 2 ^ 31) : isC (sI b) a = true ↔ sI a < sI b := by
  have h2 := hb.2
  constructor
  · intro q
    obtain ⟨c, hc, e⟩ := (inR_c (by omega)).mp q
    rw [e, sI_nI (by omega)]; exact hc
  · intro q
    exact (inR_c (by omega)).mpr ⟨_, q, ha.1⟩
theorem rel_lot (h : Rel n T x v) (k : Int32) : (csLot x (sI (v.1 27)) (fun i => sI (v.2.1 26 i)) (fun k => sI (v.2.1 32 k)) k).1 = (spLot v k).1 ∧ Rel n T (csLot x (sI (v.1 27)) (fun i => sI (v.2.1 26 i)) (fun k => sI (v.2.1 32 k)) k).2 (spLot v k).2 := by
  unfold csLot spLot
  dsimp only
  by_cases hk : isK k = true
  · rw [if_pos hk, if_pos hk]
    obtain ⟨hk5, ek⟩ := isK_x hk
    obtain ⟨⟨a1, a2, a3, a4, a5⟩, b, c9, d, e, f, g, o⟩ := h.rk _ hk5
    obtain ⟨r1, r2, r3, r4, r5, r6, r7, r8⟩ := h.rh
    rw [a1, a3, r6]
    have i1 : (v.2.1 31 (sI k) = 0 ∨ v.2.1 31 (sI k) ≤ v.2.1 32 (sI k)) ↔ (v.2.1 31 (sI k) = 0 ∨ v.2.1 32 (sI k) = v.2.1 31 (sI k)) := by
      rw [nn_le a2 a4 (by omega) (by omega), nn_eq a4 a2]
      constructor
      · rintro (q | q)
        · exact Or.inl q
        · exact Or.inr (by omega)
      · rintro (q | q)
        · exact Or.inl q
        · exact Or.inr (by omega)
    by_cases h1 : (v.2.1 31 (sI k) = 0 ∨ v.2.1 32 (sI k) = v.2.1 31 (sI k))
    · rw [if_pos (i1.mpr h1), if_pos h1]; exact ⟨rfl, h⟩
    · rw [if_neg (fun q => h1 (i1.mp q)), if_neg h1]
      have hlt : sI (v.2.1 32 (sI k)) < sI (v.2.1 31 (sI k)) := by
        have : ¬ sI (v.2.1 32 (sI k)) = sI (v.2.1 31 (sI k)) := fun q => h1 (Or.inr ((nn_eq a4 a2).mpr q))
        omega
      by_cases h2 : v.1 28 = v.1 27
      · rw [if_pos h2, if_neg (fun q => by
          have := (nn_isC r7 r2 (by omega)).mp q
          have := (nn_eq r7 r2).mp h2
          omega)]
        exact ⟨rfl, h⟩
      · have hm : sI (v.1 28) < sI (v.1 27) := by
          have : ¬ sI (v.1 28) = sI (v.1 27) := fun q => h2 ((nn_eq r7 r2).mpr q)
          omega
        rw [if_neg h2, if_pos ((nn_isC r7 r2 (by omega)).mpr hm), if_pos (by have := a2.2; omega)]
        obtain ⟨s1, s2, s3, s4, s5⟩ := r3 _ hm
        have hz25 := a2.2
        generalize hc : sI (v.2.1 26 (sI (v.1 28))) = c at s1 s2 s3 s4 s5
        have hrc := h.rc.1 _ s3
        obtain ⟨m1, m2, m3⟩ := nn_succ r7 (by omega)
        obtain ⟨w1, w2, w3⟩ := nn_succ a4 (by omega)
        have h37 : v.2.1 37 (sI k) = 0 := Classical.byContradiction (fun q => by
          have := (nn_eq a2 a4).mp (g q).2.1
          omega)
        have h36 : v.2.1 36 (sI k) = 0 := Classical.byContradiction (fun q => (o q).1 h37)
        refine ⟨by show x.1 24 c 0 = _; rw [hrc.2.1]; exact s2.symm, h.rs, h.rt, h.rl, ⟨fun d hd => ?_, h.rc.2.1, h.rc.2.2⟩, ?_, h.rp, ?_, fun k9 hk9 => ?_, ?_, h.rw⟩
        · by_cases hdc : d = c
          · subst hdc
            obtain ⟨g1, g2, g3, g4, g5, g6, g7, g8, g9, g10, g11, g12, g13, g14, g15, g16, g17⟩ := hrc
            unfold RC1 cLt1
            simp only [cI_r, cI_l, mrU_r, miU_s]
            have hkn : nn k 4 := ⟨ek, by omega⟩
            simp [g1, g2, g3, g4, g5, g6, g7, g8, g9, g10, g11, g12, g13, g15, g17, hkn]
          · unfold cLt1
            exact RC1_ext (h.rc.1 d hd) rfl (fun s => by simp [cI_r, hdc]) (fun r _ _ => by
              rw [mrU_r, if_neg (by omega), mrU_r, if_neg (by omega), mrU_r, if_neg (by omega)]; rfl)
        · obtain ⟨p1, p2, p3, p4, p5, p6⟩ := h.rd
          refine ⟨p1, p2, p3, p4, fun d hd => ⟨(p5 d hd).1, fun q => ?_⟩, p6⟩
          by_cases hdc : d = c
          · rw [hdc]; exact s5
          · refine (p5 d hd).2 (fun q9 => q ?_)
            show (mrU (mrU (mrU (miU v 28 (v.1 28 + 1)) 24 c k) 33 _ _) 32 _ _).2.1 24 d = -1
            rw [mrU_r, if_neg (by omega), mrU_r, if_neg (by omega), mrU_r, if_neg (by omega)]
            exact q9
        · refine ⟨r1, r2, r3, r4, r5, ?_, ?_, ?_⟩
          · unfold cLt1; simp [cI_r, r6]; rfl
          · show nn (v.1 28 + 1) 150
            exact ⟨by rw [m2]; exact m1, by have := r2.2; omega⟩
          · show sI (v.1 28 + 1) ≤ sI (v.1 27)
            omega
        · by_cases hkk : k9 = sI k
          · subst hkk
            unfold RK1 cLt1
            simp only [cI_r, mrU_r, miU_s]
            refine ⟨?_, fun i hi => ?_, c9, d, e, f, fun q => absurd h37 q, fun q => absurd h36 q⟩
            · refine ⟨a1, a2, ?_, ?_, ?_⟩
              · simp [w1]
              · simpa using ⟨by rw [w2]; exact w1, by have := a2.2; omega⟩
              · simp; omega
            · simp at hi
              rw [w2] at hi
              by_cases hi2 : i = sI (v.2.1 32 (sI k))
              · subst hi2
                simp [hrc.2.1]
                rw [← hc] at s2 ⊢
                exact ⟨s2.symm, s2, by rw [hc]; exact s3⟩
              · have := b i (by omega)
                simp [hi2]
                exact this
          · unfold cLt1
            exact RK1_ext (h.rk k9 hk9) (fun κ _ _ s9 => by rw [cI_r, if_neg (by omega), cI_r, if_neg (by omega), cI_r, if_neg (by omega), cI_r, if_neg (by omega)]) (fun r _ _ j hj => by
              rw [mrU_r, if_neg (by omega), mrU_r, if_neg (by omega), mrU_r, if_neg (by omega)]; rfl)
        · obtain ⟨x1, x2⟩ := h.rx
          have nc : ∀ k9, k9 < 5 → ∀ i, i < sI (v.2.1 32 k9) → ¬ v.2.1 33 (25 * k9 + i) = v.2.1 26 (sI (v.1 28)) := fun k9 hk9 i hi q => by
            obtain ⟨-, j, hj, ej⟩ := x1 k9 hk9 i hi
            have := r4 j (sI (v.1 28)) (by omega) hm (by rw [← ej, q])
            omega
          have e32 : ∀ k9, (mrU (mrU (mrU (miU v 28 (v.1 28 + 1)) 24 c k) 33 (25 * sI k + sI (v.2.1 32 (sI k))) (v.2.1 26 (sI (v.1 28)))) 32 (sI k) (v.2.1 32 (sI k) + 1)).2.1 32 k9 = if k9 = sI k then v.2.1 32 (sI k) + 1 else v.2.1 32 k9 := fun k9 => by
            rw [mrU_r]
            by_cases q : k9 = sI k
            · rw [if_pos ⟨rfl, q⟩, if_pos q]
            · rw [if_neg (fun q9 => q q9.2), if_neg q, mrU_r, if_neg (by omega), mrU_r, if_neg (by omega)]; rfl
          have e33 : ∀ b9, (mrU (mrU (mrU (miU v 28 (v.1 28 + 1)) 24 c k) 33 (25 * sI k + sI (v.2.1 32 (sI k))) (v.2.1 26 (sI (v.1 28)))) 32 (sI k) (v.2.1 32 (sI k) + 1)).2.1 33 b9 = if b9 = 25 * sI k + sI (v.2.1 32 (sI k)) then v.2.1 26 (sI (v.1 28)) else v.2.1 33 b9 := fun b9 => by
            rw [mrU_r, if_neg (by omega), mrU_r]
            by_cases q : b9 = 25 * sI k + sI (v.2.1 32 (sI k))
            · rw [if_pos ⟨rfl, q⟩, if_pos q]
            · rw [if_neg (fun q9 => q q9.2), if_neg q, mrU_r, if_neg (by omega)]; rfl
          have e24 : ∀ b9, (mrU (mrU (mrU (miU v 28 (v.1 28 + 1)) 24 c k) 33 (25 * sI k + sI (v.2.1 32 (sI k))) (v.2.1 26 (sI (v.1 28)))) 32 (sI k) (v.2.1 32 (sI k) + 1)).2.1 24 b9 = if b9 = c then k else v.2.1 24 b9 := fun b9 => by
            rw [mrU_r, if_neg (by omega), mrU_r, if_neg (by omega), mrU_r]
            by_cases q : b9 = c
            · rw [if_pos ⟨rfl, q⟩, if_pos q]
            · rw [if_neg (fun q9 => q q9.2), if_neg q]; rfl
          have hN := a4.2
          have old : ∀ k9, k9 < 5 → ∀ i, i < (if k9 = sI k then sI (v.2.1 32 (sI k)) + 1 else sI (v.2.1 32 k9)) → (k9 = sI k ∧ i = sI (v.2.1 32 (sI k))) ∨ (i < sI (v.2.1 32 k9) ∧ ¬ 25 * k9 + i = 25 * sI k + sI (v.2.1 32 (sI k))) := fun k9 hk9 i hi => by
            have h25 := (h.rk k9 hk9).1.2.2.2.1.2
            by_cases q : k9 = sI k
            · rw [if_pos q] at hi
              by_cases q2 : i = sI (v.2.1 32 (sI k))
              · exact Or.inl ⟨q, q2⟩
              · rw [q]; exact Or.inr ⟨by omega, by omega⟩
            · rw [if_neg q] at hi
              exact Or.inr ⟨hi, by omega⟩
          have s32 : ∀ k9, sI (if k9 = sI k then v.2.1 32 (sI k) + 1 else v.2.1 32 k9) = if k9 = sI k then sI (v.2.1 32 (sI k)) + 1 else sI (v.2.1 32 k9) := fun k9 => by
            by_cases q : k9 = sI k
            · rw [if_pos q, if_pos q]; exact w2
            · rw [if_neg q, if_neg q]
          refine ⟨fun k9 hk9 i hi => ?_, fun k9 hk9 i hi j hj hij => ?_⟩
          · dsimp only at hi ⊢
            rw [e32, s32] at hi
            rw [e33, e24]
            show _ ∧ ∃ j, j < sI (v.1 28 + 1) ∧ _ = v.2.1 26 j
            rcases old k9 hk9 i hi with ⟨q1, q2⟩ | ⟨q1, q2⟩
            · rw [q1, q2, if_pos rfl, hc, if_pos rfl]
              exact ⟨ek, sI (v.1 28), by omega, rfl⟩
            · obtain ⟨y1, j, y2, y3⟩ := x1 k9 hk9 i q1
              rw [if_neg q2, if_neg (fun q => nc k9 hk9 i q1 (by
                have hb := ((h.rk k9 hk9).2.1 i q1).2.1
                rw [hb, s2, q]))]
              exact ⟨y1, j, by omega, y3⟩
          · dsimp only at hi hj hij
            rw [e32, s32] at hi hj
            rw [e33, e33] at hij
            rcases old k9 hk9 i hi with ⟨q1, q2⟩ | ⟨q1, q2⟩
            · rcases old k9 hk9 j hj with ⟨q3, q4⟩ | ⟨q3, q4⟩
              · omega
              · rw [if_pos (by omega), if_neg q4] at hij
                exact absurd hij.symm (nc k9 hk9 j q3)
            · rcases old k9 hk9 j hj with ⟨q3, q4⟩ | ⟨q3, q4⟩
              · rw [if_neg q2, if_pos (by omega)] at hij
                exact absurd hij (nc k9 hk9 i q1)
              · rw [if_neg q2, if_neg q4] at hij
                exact x2 k9 hk9 i q1 j q3 hij
  · rw [if_neg hk, if_neg hk]; exact ⟨rfl, h⟩
end RE6
