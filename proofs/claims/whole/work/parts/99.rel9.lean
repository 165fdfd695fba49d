/-! come -/
section RE9
variable {n T : Nat} {x x' : cS} {v v' : mS}
theorem cnt_lt {p : Nat → Bool} {c : Nat} : ∀ {n : Nat}, c < n → p c = false → cnt p n < n
  | 0, h, _ => by omega
  | n + 1, h, hp => by
    rw [cnt]
    by_cases hc : c = n
    · subst hc
      rw [hp]
      have := cnt_le p c
      simp; omega
    · have := cnt_lt (p := p) (n := n) (by omega) hp
      split <;> omega
theorem cnt_up {p q : Nat → Bool} {c : Nat} (h0 : ∀ i, ¬ i = c → q i = p i) (hp : p c = false) (hq : q c = true) : ∀ {n : Nat}, c < n → cnt q n = cnt p n + 1
  | 0, h => by omega
  | n + 1, h => by
    rw [cnt, cnt]
    by_cases hc : c = n
    · subst hc
      rw [hp, hq, cnt_congr (fun i hi => h0 i (by omega))]
      simp
    · rw [cnt_up h0 hp hq (show c < n by omega), h0 n (by omega)]
      omega
theorem nI_ne1 {k : Nat} (h : k < 2 ^ 29) : ¬ nI k = -1 := fun q => by
  have := nI_i h
  rw [q] at this
  have e : (-1 : Int32).toInt = -1 := rfl
  omega
theorem rel_come (h : Rel n T x v) (t : Int32) : (csCome x n T (cnt (mCame v) n) (fun c => sI (v.2.1 16 c)) (fun c => sI (v.2.1 17 c)) t).1 = (spCome n T v t).1 ∧ Rel n T (csCome x n T (cnt (mCame v) n) (fun c => sI (v.2.1 16 c)) (fun c => sI (v.2.1 17 c)) t).2 (spCome n T v t).2 := by
  unfold csCome spCome
  dsimp only
  by_cases h1 : isC n t = true
  · have hn := h.rs.2.2.1
    obtain ⟨hc, -⟩ := isC_x hn h1
    rw [if_pos h1, if_pos h1]
    generalize sI t = c at hc
    obtain ⟨g1, g2, g3, g4, g5, g6, g7, g8, g9, g10, g11, g12, g13, g14, g15, g16, g17⟩ := h.rc.1 _ hc
    obtain ⟨p1, p2, p3, p4, p5, p6⟩ := h.rd
    have t9 := g4.2
    have w9 := g6.2
    have hq : (cSit x T c = true ∧ x.1 24 c 7 = -1 ∧ x.1 12 0 (sI (v.2.1 16 c)) = 0) ↔ (mSit v T c && (decide (v.2.1 22 c = -1) && decide (v.2.1 25 (sI (v.2.1 16 c)) = 0))) = true := by
      rw [rel_sit h hc, g12, p6 _ (by omega), Bool.and_eq_true_iff, Bool.and_eq_true_iff, decide_eq_true_iff, decide_eq_true_iff]
    by_cases h2 : (mSit v T c && (decide (v.2.1 22 c = -1) && decide (v.2.1 25 (sI (v.2.1 16 c)) = 0))) = true
    · rw [if_pos (hq.mpr h2), if_pos h2]
      obtain ⟨-, hm1, h25⟩ := hq.mpr h2
      rw [g12] at hm1
      have e11 : x.1 11 0 (5 * sI (v.2.1 16 c) + sI (v.2.1 17 c)) = nI (cnt (mColP v (v.2.1 16 c) (v.2.1 17 c)) n) := by
        rw [p4 _ (by omega) _ (by omega), ← g4.1, ← g6.1]
      have hlt : ∀ t w, cnt (mColP v t w) n < n := fun t w => cnt_lt hc (by rw [mColP, hm1]; simp)
      generalize hN : cnt (mColP v (v.2.1 16 c) (v.2.1 17 c)) n = N at e11
      have hNn : N < n := by rw [← hN]; exact hlt _ _
      refine ⟨by show x.1 11 0 _ + 1 = _; rw [e11], ?_⟩
      have ea : cnt (mCame v) n < n := cnt_lt hc (by rw [mCame, hm1]; rfl)
      generalize hV : mrU v 22 c (nI N) = V
      have Vf : ∀ r, ¬ r = 22 → V.2.1 r = v.2.1 r := fun r hr => by rw [← hV]; exact mrU_f _ _ _ _ hr
      have Vo : ∀ i, ¬ i = c → V.2.1 22 i = v.2.1 22 i := fun i hi => by rw [← hV, mrU_r, if_neg (fun q => hi q.2)]
      have Vc : V.2.1 22 c = nI N := by rw [← hV, mrU_r, if_pos ⟨rfl, rfl⟩]
      have V1 : V.1 = v.1 := by rw [← hV]; rfl
      have V2 : V.2.2 = v.2.2 := by rw [← hV]; rfl
      have hne : ¬ nI N = -1 := nI_ne1 (by omega)
      have eCa : cnt (mCame V) n = cnt (mCame v) n + 1 := cnt_up (fun i hi => by rw [mCame, mCame, Vo i hi]) (by rw [mCame, hm1]; rfl) (by rw [mCame, Vc]; simp [hne]) hc
      have eCo1 : cnt (mColP V (v.2.1 16 c) (v.2.1 17 c)) n = N + 1 := by
        rw [← hN]
        exact cnt_up (fun i hi => by rw [mColP, mColP, Vo i hi, Vf 16 (by omega), Vf 17 (by omega)]) (by rw [mColP, hm1]; simp) (by rw [mColP, Vc, Vf 16 (by omega), Vf 17 (by omega)]; simp [hne]) hc
      have eCo2 : ∀ t w, ¬ (v.2.1 16 c = t ∧ v.2.1 17 c = w) → cnt (mColP V t w) n = cnt (mColP v t w) n := fun t w hh => cnt_congr (fun i _ => by
        by_cases hic : i = c
        · rw [hic, mColP, mColP, Vf 16 (by omega), Vf 17 (by omega)]
          by_cases ha : v.2.1 16 c = t
          · have hb : ¬ v.2.1 17 c = w := fun q => hh ⟨ha, q⟩
            simp [hb]
          · simp [ha]
        · rw [mColP, mColP, Vo i hic, Vf 16 (by omega), Vf 17 (by omega)])
      have eCo3 : ∀ t w, cnt (mColP v t w) n ≤ cnt (mColP V t w) n := fun t w => by
        by_cases hh : v.2.1 16 c = t ∧ v.2.1 17 c = w
        · rw [← hh.1, ← hh.2, eCo1, hN]; omega
        · rw [eCo2 t w hh]; omega
      show Rel n T (cAdm x (cnt (mCame v) n) c (5 * sI (v.2.1 16 c) + sI (v.2.1 17 c))) V
      have key : Rel n T (cAdm x (cnt (mCame v) n) c (5 * sI (v.2.1 16 c) + sI (v.2.1 17 c))) V := by
        refine ⟨?_, ?_, ?_, ⟨fun d hd => ?_, fun d hd1 hd2 => ?_, ?_⟩, ?_, ?_, ?_, fun k hk => ?_, ?_, ?_⟩
        · rw [← hV]; exact h.rs
        · rw [← hV]; exact h.rt
        · rw [← hV]; exact h.rl
        · by_cases hdc : d = c
          · subst hdc
            unfold RC1 cAdm
            rw [Vf 16 (by omega), Vf 17 (by omega), Vf 18 (by omega), Vf 19 (by omega), Vf 20 (by omega), Vf 21 (by omega), Vf 23 (by omega), Vf 24 (by omega), Vc]
            simp only [cI_r, cI_l, cO_r, cO_l]
            have nN : nn (nI N) 149 := nn_nI (by omega) (by omega)
            simp [g1, g2, g3, g4, g5, g6, g7, g8, g9, g10, g11, g13, g14, g16, g17, nN, e11]
          · unfold cAdm
            exact RC1_ext (h.rc.1 d hd) rfl (fun s => by rw [cI_r, if_neg (by omega), cI_r, if_neg (by omega), cI_r, if_neg (by omega), cO_l]) (fun r _ _ => by
              by_cases hr : r = 22
              · rw [hr]; exact Vo d hdc
              · rw [Vf r hr])
        · have := h.rc.2.1 d hd1 hd2
          rw [Vf 19 (by omega), Vf 20 (by omega), Vf 21 (by omega), Vf 23 (by omega)]
          exact this
        · intro κ i j e hq9
          have hq8 : (if κ = 10 ∧ i = 0 ∧ j = cnt (mCame v) n then some c else x.2.2 κ i j) = some e := hq9
          by_cases hh : κ = 10 ∧ i = 0 ∧ j = cnt (mCame v) n
          · rw [if_pos hh] at hq8
            have : c = e := Option.some.inj hq8
            exact ⟨fun q => by omega, fun _ => by omega⟩
          · rw [if_neg hh] at hq8
            exact h.rc.2.2 κ i j e hq8
        · unfold RD
          rw [eCa]
          have x2 : ∀ i, (cAdm x (cnt (mCame v) n) c (5 * sI (v.2.1 16 c) + sI (v.2.1 17 c))).2.2 10 0 i = if i = cnt (mCame v) n then some c else x.2.2 10 0 i := fun i => by
            show (if 10 = 10 ∧ 0 = 0 ∧ i = cnt (mCame v) n then some c else x.2.2 10 0 i) = _
            simp
          refine ⟨?_, fun i hi => ?_, fun d hd hq9 => ?_, fun t9 ht9 w9 hw9 => ?_, fun d hd => ?_, fun t9 ht9 => ?_⟩
          · unfold cAdm
            simp [cI_r]
          · rw [x2]
            by_cases hi2 : i = cnt (mCame v) n
            · rw [if_pos hi2]
              exact ⟨c, hc, rfl, by rw [Vc]; exact hne⟩
            · rw [if_neg hi2]
              obtain ⟨d, q1, q2, q3⟩ := p2 i (by omega)
              exact ⟨d, q1, q2, by rw [Vo d (fun q => q3 (by rw [q]; exact hm1))]; exact q3⟩
          · by_cases hdc : d = c
            · exact ⟨cnt (mCame v) n, by omega, by rw [x2, if_pos rfl, hdc]⟩
            · rw [Vo d hdc] at hq9
              obtain ⟨i, q1, q2⟩ := p3 d hd hq9
              exact ⟨i, by omega, by rw [x2, if_neg (by omega)]; exact q2⟩
          · unfold cAdm
            rw [cI_r]
            by_cases hh : v.2.1 16 c = nI t9 ∧ v.2.1 17 c = nI w9
            · have a1 : sI (v.2.1 16 c) = t9 := by rw [hh.1]; exact sI_nI (by omega)
              have a2 : sI (v.2.1 17 c) = w9 := by rw [hh.2]; exact sI_nI (by omega)
              rw [if_pos ⟨rfl, rfl, by rw [a1, a2]⟩, ← hh.1, ← hh.2, eCo1]
              simp [e11, nI_1]
            · rw [if_neg (fun q => hh (by
                have : t9 = sI (v.2.1 16 c) ∧ w9 = sI (v.2.1 17 c) := by omega
                rw [this.1, this.2]; exact ⟨g4.1, g6.1⟩)), eCo2 _ _ hh, ← p4 t9 ht9 w9 hw9]
              rfl
          · rw [Vf 23 (by omega), Vf 24 (by omega)]
            by_cases hdc : d = c
            · rw [hdc, Vc]; exact ⟨fun _ => hne, fun _ => hne⟩
            · rw [Vo d hdc]; exact p5 d hd
          · rw [Vf 25 (by omega)]; exact p6 t9 ht9
        · obtain ⟨r1, r2, r3⟩ := h.rp
          refine ⟨fun d hd hq9 => ?_, fun d hd d2 hd2 hq9 a1 a2 a3 => ?_, fun t9 ht9 w9 hw9 p hp => ?_⟩
          · rw [Vf 16 (by omega), Vf 17 (by omega)]
            by_cases hdc : d = c
            · rw [hdc, Vc, eCo1, sI_nI (by omega)]; omega
            · rw [Vo d hdc] at hq9 ⊢
              exact Nat.lt_of_lt_of_le (r1 d hd hq9) (eCo3 _ _)
          · rw [Vf 16 (by omega)] at a2
            rw [Vf 17 (by omega)] at a3
            by_cases hdc : d = c
            · by_cases hdc2 : d2 = c
              · rw [hdc, hdc2]
              · rw [hdc, Vc, Vo d2 hdc2] at a1
                rw [hdc] at a2 a3
                have := r1 d2 hd2 (by rw [← a1]; exact hne)
                rw [← a1, ← a2, ← a3, hN, sI_nI (by omega)] at this
                omega
            · by_cases hdc2 : d2 = c
              · rw [hdc2, Vc, Vo d hdc] at a1
                rw [hdc2] at a2 a3
                have := r1 d hd (by rw [a1]; exact hne)
                rw [a1, a2, a3, hN, sI_nI (by omega)] at this
                omega
              · rw [Vo d hdc] at hq9
                rw [Vo d hdc, Vo d2 hdc2] at a1
                exact r2 d hd d2 hd2 hq9 a1 a2 a3
          · have old : p < cnt (mColP v (nI t9) (nI w9)) n → ∃ c, c < n ∧ mAtP V (nI t9) (nI w9) (nI p) c = true := fun hp9 => by
              obtain ⟨d, q1, q2⟩ := r3 t9 ht9 w9 hw9 p hp9
              refine ⟨d, q1, ?_⟩
              have hpn := hlt (nI t9) (nI w9)
              have hdc : ¬ d = c := fun q => by
                rw [q] at q2
                unfold mAtP at q2
                rw [hm1] at q2
                simp only [Bool.and_eq_true_iff, decide_eq_true_iff] at q2
                exact nI_ne1 (by omega) q2.2.2.symm
              rw [mAtP, Vo d hdc, Vf 16 (by omega), Vf 17 (by omega)]
              exact q2
            by_cases hh : v.2.1 16 c = nI t9 ∧ v.2.1 17 c = nI w9
            · rw [← hh.1, ← hh.2, eCo1] at hp
              by_cases hpN : p = N
              · refine ⟨c, hc, ?_⟩
                rw [mAtP, Vf 16 (by omega), Vf 17 (by omega), Vc, hh.1, hh.2, hpN]
                simp
              · refine old ?_
                rw [← hh.1, ← hh.2, hN]; omega
            · rw [eCo2 _ _ hh] at hp
              exact old hp
        · obtain ⟨r1, r2, r3, r4, r5, r6, r7, r8⟩ := h.rh
          unfold RH
          rw [V1, Vf 16 (by omega), Vf 25 (by omega), Vf 26 (by omega)]
          refine ⟨r1, r2, fun i hi => ?_, r4, r5, r6, r7, r8⟩
          obtain ⟨q1, q2, q3, q4, q5⟩ := r3 i hi
          exact ⟨by
            show (if 13 = 10 ∧ 0 = 0 ∧ i = cnt (mCame v) n then some c else x.2.2 13 0 i) = _
            rw [if_neg (by omega)]; exact q1, q2, q3, q4, by rw [Vo _ (fun q => q5 (by rw [q]; exact hm1))]; exact q5⟩
        · unfold cAdm
          exact RK1_ext (h.rk k hk) (fun κ _ _ s9 => by rw [cI_r, if_neg (by omega), cI_r, if_neg (by omega), cI_r, if_neg (by omega), cO_l]) (fun r _ _ j _ => by rw [Vf r (by omega)])
        · exact RX_ext h.rx V1 (fun r hr => Vf r (by omega))
        · rw [← hV]; exact h.rw
      exact key
    · rw [if_neg (fun q => h2 (hq.mp q)), if_neg h2]; exact ⟨rfl, h⟩
  · rw [if_neg h1, if_neg h1]; exact ⟨rfl, h⟩
end RE9
