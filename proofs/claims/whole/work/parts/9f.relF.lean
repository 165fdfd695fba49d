/-! draw -/
section REF
variable {n T : Nat} {x x' : cS} {v v' : mS}
theorem lN_iI {k : Nat} (h : k < 2 ^ 63) : (lN k).toInt = k := Int64.toInt_ofNat_of_lt h
theorem lN_ltI {a b : Nat} (ha : a < 2 ^ 63) (hb : b < 2 ^ 63) : lN a < lN b ↔ a < b := by
  rw [Int64.lt_iff_toInt_lt, lN_iI ha, lN_iI hb]; omega
theorem lN_of {z : Int64} (h : 0 ≤ z.toInt) : z = lN z.toInt.toNat ∧ z.toInt.toNat < 2 ^ 63 := by
  have h1 := Int64.toInt_lt z
  have h2 : z.toInt.toNat < 2 ^ 63 := by omega
  refine ⟨Int64.toInt_inj.mp ?_, h2⟩
  rw [lN_iI h2]; omega
theorem lN_sb {a b : Nat} (h : b ≤ a) : lN a - lN b = lN (a - b) := (Int64.ofNat_sub a b h).symm
/-- one citizen more among the chosen -/
theorem rel_sel (h : Rel n T x v) {c m : Nat} (hc : c < n) (h22 : ¬ v.2.1 22 c = -1) (h25 : ¬ v.2.1 25 (sI (v.2.1 16 c)) = 0) (hm : v.1 27 = nI m) (hnew : ∀ i, i < m → ¬ v.2.1 26 i = nI c) (hb : m + 1 ≤ cnt (fun c => !decide (v.2.1 25 (sI (v.2.1 16 c)) = 0)) n) : Rel n T (cI (cO (cI x 24 c 8 1) 13 0 m (some c)) 9 0 5 (nI (m + 1))) (miU (mrU (mrU v 23 c 1) 26 m (nI c)) 27 (nI (m + 1))) := by
  have hn := h.rs.2.2.1
  have hcn := cnt_le (fun c => !decide (v.2.1 25 (sI (v.2.1 16 c)) = 0)) n
  obtain ⟨p1, p2, p3, p4, p5, p6⟩ := h.rd
  obtain ⟨r1, r2, r3, r4, r5, r6, r7, r8⟩ := h.rh
  have sm : sI (v.1 27) = m := by
    have := r2.2
    rw [hm] at this ⊢
    exact sI_nI (by omega)
  rw [sm] at r3 r4 r5 r8
  have sm1 : sI ((miU (mrU (mrU v 23 c 1) 26 m (nI c)) 27 (nI (m + 1))).1 27) = m + 1 := sI_nI (by omega)
  have e26 : ∀ i, (miU (mrU (mrU v 23 c 1) 26 m (nI c)) 27 (nI (m + 1))).2.1 26 i = if i = m then nI c else v.2.1 26 i := fun i => by
    rw [miU_s, mrU_r, mrU_f _ _ _ _ (by decide)]; simp
  have e13 : ∀ i, (cI (cO (cI x 24 c 8 1) 13 0 m (some c)) 9 0 5 (nI (m + 1))).2.2 13 0 i = if i = m then some c else x.2.2 13 0 i := fun i => by
    rw [cI_l, cO_r]; simp [cI_l]
  refine ⟨h.rs, h.rt, h.rl, ⟨fun d hd => ?_, fun d hd1 hd2 => ?_, ?_⟩, ⟨p1, p2, p3, p4, fun d hd => ?_, p6⟩, h.rp, ⟨rfl, nn_nI (by omega) (by omega), fun i hi => ?_, fun i j hi hj hij => ?_, ?_, r6, r7, ?_⟩, h.rk, ?_, h.rw⟩
  · by_cases hdc : d = c
    · subst hdc
      obtain ⟨g1, g2, g3, g4, g5, g6, g7, g8, g9, g10, g11, g12, g13, g14, g15, g16, g17⟩ := h.rc.1 _ hc
      unfold RC1
      simp only [cI_r, cI_l, cO_r, cO_l, miU_s, mrU_r]
      simp [g1, g2, g3, g4, g5, g6, g7, g8, g9, g10, g11, g12, g14, g15, g16, g17]
    · exact RC1_ext (h.rc.1 d hd) rfl (fun s => by rw [cI_r, if_neg (by omega), cO_l, cI_r, if_neg (by omega)]) (fun r _ _ => by rw [miU_s, mrU_r, if_neg (by omega), mrU_r, if_neg (by omega)])
  · have := h.rc.2.1 d hd1 hd2
    rw [miU_s, mrU_f _ _ _ _ (show ¬ 19 = 26 by decide), mrU_f _ _ _ _ (show ¬ 19 = 23 by decide), mrU_f _ _ _ _ (show ¬ 20 = 26 by decide), mrU_f _ _ _ _ (show ¬ 20 = 23 by decide), mrU_f _ _ _ _ (show ¬ 21 = 26 by decide), mrU_f _ _ _ _ (show ¬ 21 = 23 by decide), mrU_f _ _ _ _ (show ¬ 23 = 26 by decide), mrU_r, if_neg (by omega)]
    exact this
  · intro κ i j e hq9
    have hq8 : (if κ = 13 ∧ i = 0 ∧ j = m then some c else x.2.2 κ i j) = some e := hq9
    by_cases hh : κ = 13 ∧ i = 0 ∧ j = m
    · rw [if_pos hh] at hq8
      have : c = e := Option.some.inj hq8
      exact ⟨fun q => by omega, fun _ => by omega⟩
    · rw [if_neg hh] at hq8
      exact h.rc.2.2 κ i j e hq8
  · refine ⟨fun q => ?_, (p5 d hd).2⟩
    by_cases hdc : d = c
    · rw [hdc]; exact h22
    · refine (p5 d hd).1 (fun q9 => q ?_)
      rw [miU_s, mrU_f _ _ _ _ (by decide), mrU_r, if_neg (fun q8 => hdc q8.2)]
      exact q9
  · rw [sm1] at hi
    rw [e13, e26]
    by_cases him : i = m
    · rw [if_pos him, if_pos him, sI_nI (by omega)]
      exact ⟨rfl, rfl, hc, h25, h22⟩
    · rw [if_neg him, if_neg him]
      exact r3 i (by omega)
  · rw [sm1] at hi hj
    rw [e26, e26] at hij
    by_cases him : i = m
    · by_cases hjm : j = m
      · omega
      · rw [if_pos him, if_neg hjm] at hij
        exact absurd hij.symm (hnew j (by omega))
    · by_cases hjm : j = m
      · rw [if_neg him, if_pos hjm] at hij
        exact absurd hij (hnew i (by omega))
      · rw [if_neg him, if_neg hjm] at hij
        exact r4 i j (by omega) (by omega) hij
  · rw [sm1]; exact hb
  · rw [sm1]
    show sI (v.1 28) ≤ m + 1
    omega
  · obtain ⟨x1, x2⟩ := h.rx
    refine ⟨fun k hk i hi => ⟨(x1 k hk i hi).1, ?_⟩, x2⟩
    obtain ⟨j, hj, ej⟩ := (x1 k hk i hi).2
    refine ⟨j, hj, ?_⟩
    rw [e26, if_neg (by omega)]
    exact ej
/-- five columns and those whose tribe has drawn -/
theorem rows_free (v : mS) (t : Int32) (h0 : v.2.1 25 (sI t) = 0) : ∀ n, cnt (mColP v t 0) n + cnt (mColP v t 1) n + cnt (mColP v t 2) n + cnt (mColP v t 3) n + cnt (mColP v t 4) n + cnt (fun c => !decide (v.2.1 25 (sI (v.2.1 16 c)) = 0)) n ≤ cnt (fun c => decide (v.2.1 16 c = t) || !decide (v.2.1 25 (sI (v.2.1 16 c)) = 0)) n
  | 0 => Nat.le_refl 0
  | n + 1 => by
    have ih := rows_free v t h0 n
    simp only [cnt]
    by_cases ht : v.2.1 16 n = t
    · have a0 := mColP_b v t 0 n
      have a1 := mColP_b v t 1 n
      have a2 := mColP_b v t 2 n
      have a3 := mColP_b v t 3 n
      have a4 := mColP_b v t 4 n
      have a5 := one5 (v.2.1 17 n)
      have b1 : (!decide (v.2.1 25 (sI (v.2.1 16 n)) = 0)) = false := by rw [ht, h0]; rfl
      have b2 : (decide (v.2.1 16 n = t) || !decide (v.2.1 25 (sI (v.2.1 16 n)) = 0)) = true := by rw [ht]; simp
      have c1 : ¬ ((!decide (v.2.1 25 (sI (v.2.1 16 n)) = 0)) = true) := by rw [b1]; decide
      rw [if_neg c1, if_pos b2]
      omega
    · have z : ∀ w, mColP v t w n = false := fun w => by rw [mColP]; simp [ht]
      rw [z, z, z, z, z]
      have b2 : (decide (v.2.1 16 n = t) || !decide (v.2.1 25 (sI (v.2.1 16 n)) = 0)) = (!decide (v.2.1 25 (sI (v.2.1 16 n)) = 0)) := by simp [ht]
      have z9 : ¬ (false = true) := by decide
      by_cases b3 : (!decide (v.2.1 25 (sI (v.2.1 16 n)) = 0)) = true
      · have b4 : (decide (v.2.1 16 n = t) || !decide (v.2.1 25 (sI (v.2.1 16 n)) = 0)) = true := by rw [b2]; exact b3
        rw [if_pos b3, if_pos b4, if_neg z9]
        omega
      · have b4 : ¬ (decide (v.2.1 16 n = t) || !decide (v.2.1 25 (sI (v.2.1 16 n)) = 0)) = true := by rw [b2]; exact b3
        rw [if_neg b3, if_neg b4, if_neg z9]
        omega
theorem rel_room (h : Rel n T x v) {t : Int32} (ht : isT t = true) (h0 : v.2.1 25 (sI t) = 0) : sI (v.1 27) + 5 * mRows v t n ≤ cnt (fun c => !decide ((mrU v 25 (sI t) 1).2.1 25 (sI ((mrU v 25 (sI t) 1).2.1 16 c)) = 0)) n ∧ sI (v.1 27) + 5 * mRows v t n ≤ 150 := by
  have a := rows_free v t h0 n
  have b := h.rh.2.2.2.2.1
  have h0 : mRows v t n ≤ cnt (mColP v t 0) n := mMin_c v t n 4 0 (by omega)
  have h1 : mRows v t n ≤ cnt (mColP v t 1) n := mMin_c v t n 4 1 (by omega)
  have h2 : mRows v t n ≤ cnt (mColP v t 2) n := mMin_c v t n 4 2 (by omega)
  have h3 : mRows v t n ≤ cnt (mColP v t 3) n := mMin_c v t n 4 3 (by omega)
  have h4 : mRows v t n ≤ cnt (mColP v t 4) n := mMin_c v t n 4 4 (by omega)
  have e : cnt (fun c => decide (v.2.1 16 c = t) || !decide (v.2.1 25 (sI (v.2.1 16 c)) = 0)) n = cnt (fun c => !decide ((mrU v 25 (sI t) 1).2.1 25 (sI ((mrU v 25 (sI t) 1).2.1 16 c)) = 0)) n := cnt_congr (fun i hi => by
    rw [mrU_f _ _ _ _ (show ¬ 16 = 25 by decide), mrU_r]
    by_cases q : v.2.1 16 i = t
    · rw [if_pos ⟨rfl, by rw [q]⟩, q]; simp
    · rw [if_neg (fun q9 => q (by
        have g := (h.rc.1 i hi).2.2.2.1
        rw [g.1, q9.2, ← (isT_x ht).2]))]
      simp [q])
  have f := cnt_le (fun c => !decide ((mrU v 25 (sI t) 1).2.1 25 (sI ((mrU v 25 (sI t) 1).2.1 16 c)) = 0)) n
  have hn := h.rs.2.2.1
  rw [e] at a
  omega
theorem rel_dr0 (h : Rel n T x v) {t : Int32} (ht : isT t = true) (h0 : v.2.1 25 (sI t) = 0) : Rel n T (cI x 12 0 (sI t) 1) (mrU v 25 (sI t) 1) := by
  obtain ⟨p1, p2, p3, p4, p5, p6⟩ := h.rd
  obtain ⟨r1, r2, r3, r4, r5, r6, r7, r8⟩ := h.rh
  refine ⟨h.rs, h.rt, h.rl, h.rc, ⟨p1, p2, p3, p4, p5, fun t9 ht9 => ?_⟩, h.rp, ⟨r1, r2, fun i hi => ?_, r4, ?_, r6, r7, r8⟩, h.rk, h.rx, h.rw⟩
  · rw [cI_r, mrU_r]
    by_cases q : t9 = sI t
    · rw [if_pos ⟨rfl, rfl, q⟩, if_pos ⟨rfl, q⟩]
    · rw [if_neg (fun q9 => q q9.2.2), if_neg (fun q9 => q q9.2)]; exact p6 t9 ht9
  · obtain ⟨a, b, c, d, e⟩ := r3 i hi
    refine ⟨a, b, c, ?_, e⟩
    rw [mrU_f _ _ _ _ (show ¬ 26 = 25 by decide), mrU_f _ _ _ _ (show ¬ 16 = 25 by decide), mrU_r]
    split
    · decide
    · exact d
  · have := (rel_room h ht h0).1
    have e : (mrU v 25 (sI t) 1).1 = v.1 := rfl
    rw [e]; omega
theorem cCh_cm (x : cS) (tk : Nat → Nat) (q b : Nat) (z : Int32) : ∀ j, cCh (cI x 12 0 b z) tk q j = cI (cCh x tk q j) 12 0 b z
  | 0 => rfl
  | j + 1 => by
    rw [cCh, cCh, cCh_cm x tk q b z j]
    refine Prod.ext ?_ rfl
    funext a i s
    simp only [cI_r, cO_l]
    by_cases h1 : a = 9 ∧ i = 0 ∧ s = 5
    · rw [if_pos h1, if_neg (by omega), if_pos h1]
    · rw [if_neg h1]
      by_cases h2 : a = 24 ∧ i = tk j ∧ s = 8
      · rw [if_pos h2, if_neg (by omega), if_neg h1, if_pos h2]
      · rw [if_neg h2]
        by_cases h3 : a = 12 ∧ i = 0 ∧ s = b
        · rw [if_pos h3, if_pos h3]
        · rw [if_neg h3, if_neg h3, if_neg h1, if_neg h2]
end REF
