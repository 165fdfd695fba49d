/-! calls that change citizens, the tape, courts -/
section RE3
variable {n T : Nat} {x x' : cS} {v v' : mS}
theorem mrU_r (v : mS) (s i : Nat) (z : Int32) (a b : Nat) : (mrU v s i z).2.1 a b = if a = s ∧ b = i then z else v.2.1 a b := by
  show va_up v.2.1 s (upd (v.2.1 s) i z) a b = _
  unfold va_up upd
  by_cases h1 : a = s
  · subst h1; by_cases h2 : b = i <;> simp [h2]
  · simp [h1]
theorem miU_r (v : mS) (i : Nat) (z : Int32) (a : Nat) : (miU v i z).1 a = if a = i then z else v.1 a := rfl
theorem RC1_ext {d : Nat} (h : RC1 x v d) (h1 : x'.2.2 8 0 d = x.2.2 8 0 d) (h2 : ∀ s, x'.1 24 d s = x.1 24 d s) (h3 : ∀ r, 16 ≤ r → r ≤ 24 → v'.2.1 r d = v.2.1 r d) : RC1 x' v' d := by
  unfold RC1 at h ⊢
  rw [h1, h2, h2, h2, h2, h2, h2, h2, h2, h2, h2, h3 16 (by omega) (by omega), h3 17 (by omega) (by omega), h3 18 (by omega) (by omega), h3 19 (by omega) (by omega), h3 20 (by omega) (by omega), h3 21 (by omega) (by omega), h3 22 (by omega) (by omega), h3 23 (by omega) (by omega), h3 24 (by omega) (by omega)]
  exact h
theorem rel_end (h : Rel n T x v) (t : Int32) : (csEnd x t).1 = (if 0 ≤ t ∧ t ≤ v.1 1 then (t, miU v 1 t) else (-1, v)).1 ∧ Rel n T (csEnd x t).2 (if 0 ≤ t ∧ t ≤ v.1 1 then (t, miU v 1 t) else (-1, v)).2 := by
  unfold csEnd
  rw [h.rt.1]
  by_cases h1 : 0 ≤ t ∧ t ≤ v.1 1
  · rw [if_pos h1, if_pos h1]
    have hn : nn t 1000 := by
      obtain ⟨j, hj, e⟩ := nI_of (Int32.not_lt.mpr h1.1)
      have h2 := h1.2
      rw [h.rt.2.1.1, e] at h2
      have h3 := (nI_leI hj (by have := h.rt.2.1.2; omega)).mp h2
      exact nn_of e (by have := h.rt.2.1.2; omega) (by omega)
    refine ⟨rfl, h.rs, ⟨?_, hn, h.rt.2.2⟩, h.rl, h.rc, h.rd, h.rp, h.rh, h.rk, h.rx, h.rw⟩
    show (cI x 1 0 1 t).1 1 0 1 = t
    simp [cI_r]
  · rw [if_neg h1, if_neg h1]
    exact ⟨rfl, h⟩
theorem rel_swear (h : Rel n T x v) (t : Int32) : (csSwear x n t).1 = (spSwear n v t).1 ∧ Rel n T (csSwear x n t).2 (spSwear n v t).2 := by
  unfold csSwear spSwear
  by_cases h1 : isC n t = true
  · obtain ⟨hc, -⟩ := isC_x h.rs.2.2.1 h1
    rw [if_pos h1, if_pos h1]
    have hr := h.rc.1 _ hc
    obtain ⟨g1, g2, g3, g4, g5, g6, g7, g8, g9, g10, g11, g12, g13, g14, g15, g16, g17⟩ := hr
    rw [g8]
    by_cases h2 : v.2.1 19 (sI t) = 0
    · rw [if_pos h2, if_pos h2]
      refine ⟨rfl, h.rs, h.rt, h.rl, ⟨fun d hd => ?_, fun d hd1 hd2 => ?_, h.rc.2.2⟩, h.rd, h.rp, h.rh, h.rk, h.rx, h.rw⟩
      · by_cases hdc : d = sI t
        · subst hdc
          unfold RC1
          simp only [cI_r, cI_l, mrU_r]
          simp [g1, g2, g3, g4, g5, g6, g7, g9, g10, g11, g12, g13, g14, g15, g16]
        · exact RC1_ext (h.rc.1 d hd) rfl (fun s => by rw [cI_r, if_neg (by omega)]) (fun r _ _ => by rw [mrU_r, if_neg (by omega)])
      · have := h.rc.2.1 d hd1 hd2
        simp only [mrU_r, show ¬ d = sI t by omega, and_false, if_false]
        exact this
    · rw [if_neg h2, if_neg h2]
      have e : v.2.1 19 (sI t) = 1 := g17.resolve_left h2
      have ev : mrU v 19 (sI t) 1 = v := by
        refine Prod.ext rfl (Prod.ext ?_ rfl)
        funext a b
        rw [mrU_r]
        split
        · rename_i q; rw [q.1, q.2, e]
        · rfl
      exact ⟨rfl, by rw [ev]; exact h⟩
  · rw [if_neg h1, if_neg h1]
    exact ⟨rfl, h⟩
theorem subI {a b : Int32} {A B : Nat} (ha : nn a A) (hA : A < 2 ^ 31) (hb : b = nI B) (hle : B ≤ sI a) : a - b = nI (sI a - B) := by
  rw [ha.1, hb, sI_nI (by have := ha.2; omega)]; exact pk_sub hle
theorem rel_pay (h : Rel n T x v) (t q : Int32) : (csPay x n t q).1 = (spPay n v t q).1 ∧ Rel n T (csPay x n t q).2 (spPay n v t q).2 := by
  unfold csPay spPay
  by_cases h1 : isC n t = true
  · obtain ⟨hc, -⟩ := isC_x h.rs.2.2.1 h1
    obtain ⟨g1, g2, g3, g4, g5, g6, g7, g8, g9, g10, g11, g12, g13, g14, g15, g16, g17⟩ := h.rc.1 _ hc
    rw [g9]
    have hq : (isC n t = true ∧ ¬ q < 1 ∧ q ≤ v.2.1 20 (sI t)) ↔ (isC n t && inR 1 (v.2.1 20 (sI t)).toInt q) = true := by
      rw [Bool.and_eq_true_iff]
      unfold inR
      rw [decide_eq_true_iff, Int32.not_lt, le_toI, le_toI]
      exact Iff.rfl
    by_cases h2 : (isC n t && inR 1 (v.2.1 20 (sI t)).toInt q) = true
    · rw [if_pos (hq.mpr h2), if_pos h2]
      obtain ⟨-, q1, q2⟩ := hq.mpr h2
      have hz : nn (v.2.1 20 (sI t) - q) 2000000000 := by
        obtain ⟨j, hj, e⟩ := nI_of (x := q) (fun q9 => q1 (by
          have h8 : (0 : Int32) < 1 := by decide
          exact Int32.lt_trans q9 h8))
        rw [g10.1, e] at q2
        have h5 := (nI_leI hj (by have := g10.2; omega)).mp q2
        exact nn_of (subI g10 (by omega) e h5) (by have := g10.2; omega) (by omega)
      refine ⟨rfl, h.rs, h.rt, h.rl, ⟨fun d hd => ?_, fun d hd1 hd2 => ?_, h.rc.2.2⟩, h.rd, h.rp, h.rh, h.rk, h.rx, h.rw⟩
      · by_cases hdc : d = sI t
        · subst hdc
          unfold RC1
          simp only [cI_r, cI_l, mrU_r]
          simp [g1, g2, g3, g4, g5, g6, g7, g8, hz, g11, g12, g13, g14, g15, g16, g17]
        · exact RC1_ext (h.rc.1 d hd) rfl (fun s => by rw [cI_r, if_neg (by omega)]) (fun r _ _ => by rw [mrU_r, if_neg (by omega)])
      · have := h.rc.2.1 d hd1 hd2
        simp only [mrU_r, show ¬ d = sI t by omega, and_false, if_false]
        exact this
    · rw [if_neg (fun q9 => h2 (hq.mp q9)), if_neg h2]
      exact ⟨rfl, h⟩
  · rw [if_neg (fun q9 => h1 q9.1), if_neg (by rw [Bool.eq_false_iff.mpr h1]; simp)]
    exact ⟨rfl, h⟩
end RE3
