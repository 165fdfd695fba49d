/-! citizen, come -/
section RE8
variable {n T : Nat} {x x' : cS} {v v' : mS}
theorem okCit_iff (h : Rel n T x v) (t w b : Int32) : okCit9 x t w b ↔ (isT t && (inR 0 4 w && inR (-40000) (v.1 14 - 1).toInt b)) = true := by
  unfold okCit9
  obtain ⟨s1, s2, s3, s4, s5, -⟩ := h.rs
  have hN := s5.2
  rw [Bool.and_eq_true_iff, Bool.and_eq_true_iff, inR_b (lo := -40000) (q := b), s4, Int32.not_lt, le_toI, Int32.lt_iff_toInt_lt, s5.1, nI_i1 (by omega), nI_i (by omega)]
  have : (-40000 : Int32).toInt = -40000 := rfl
  rw [this]
  constructor
  · rintro ⟨a, c, d, e⟩; exact ⟨a, c, d, by omega⟩
  · rintro ⟨a, c, d, e⟩; exact ⟨a, c, d, by omega⟩
theorem RK1_mono {k m : Nat} (h : RK1 n x v k) (hm : n ≤ m) : RK1 m x v k := by
  obtain ⟨a, b, c, d, e, f, g, o⟩ := h
  refine ⟨a, fun i hi => ⟨(b i hi).1, (b i hi).2.1, by have := (b i hi).2.2; omega⟩, c, d, e, f, g, fun q => ?_⟩
  obtain ⟨o1, o2, o3, o4, o5, o6⟩ := o q
  exact ⟨o1, o2, o3, ⟨o4.1, by have := o4.2; omega⟩, ⟨o5.1, by have := o5.2; omega⟩, o6⟩
def spCit1 (n : Nat) (v : mS) (t w b : Int32) : mS := miU (mrU (mrU (mrU (mrU (mrU v 16 n t) 17 n w) 18 n b) 22 n (-1)) 24 n (-1)) 15 (nI (n + 1))
theorem spCit1_o (v : mS) (t w b : Int32) {r i : Nat} (h : ¬ i = n) : (spCit1 n v t w b).2.1 r i = v.2.1 r i := by
  unfold spCit1
  rw [miU_s, mrU_r, if_neg (fun q => h q.2), mrU_r, if_neg (fun q => h q.2), mrU_r, if_neg (fun q => h q.2), mrU_r, if_neg (fun q => h q.2), mrU_r, if_neg (fun q => h q.2)]
theorem spCit1_f (v : mS) (t w b : Int32) {r i : Nat} (h : ¬ (16 ≤ r ∧ r ≤ 24)) : (spCit1 n v t w b).2.1 r i = v.2.1 r i := by
  unfold spCit1
  rw [miU_s, mrU_r, if_neg (by omega), mrU_r, if_neg (by omega), mrU_r, if_neg (by omega), mrU_r, if_neg (by omega), mrU_r, if_neg (by omega)]
theorem spCit1_n (v : mS) (t w b : Int32) : (spCit1 n v t w b).2.1 16 n = t ∧ (spCit1 n v t w b).2.1 17 n = w ∧ (spCit1 n v t w b).2.1 18 n = b ∧ (spCit1 n v t w b).2.1 19 n = v.2.1 19 n ∧ (spCit1 n v t w b).2.1 20 n = v.2.1 20 n ∧ (spCit1 n v t w b).2.1 21 n = v.2.1 21 n ∧ (spCit1 n v t w b).2.1 22 n = -1 ∧ (spCit1 n v t w b).2.1 23 n = v.2.1 23 n ∧ (spCit1 n v t w b).2.1 24 n = -1 := by
  unfold spCit1
  simp only [miU_s, mrU_r]
  simp
theorem csCit1_r (x : cS) (t w b : Int32) (a i c : Nat) : (csCit1 x n t w b).1 a i c = if a = 0 ∧ i = 0 ∧ c = 7 then nI (n + 1) else if a = 24 ∧ i = n then cCf n t w b c else x.1 a i c := rfl
theorem csCit1_2 (x : cS) (t w b : Int32) (a i c : Nat) : (csCit1 x n t w b).2.2 a i c = if a = 8 ∧ i = 0 ∧ c = n then some n else x.2.2 a i c := rfl
theorem rel_cit1 (h : Rel n T x v) (t w b : Int32) (hn : n < 150) (ht : isT t = true) (hw : isC 5 w = true) : Rel (n + 1) T (csCit1 x n t w b) (spCit1 n v t w b) := by
  obtain ⟨s1, s2, s3, s4, s5, s6⟩ := h.rs
  obtain ⟨y16, y17, y18, y19, y20, y21, y22, y23, y24⟩ := spCit1_n (n := n) v t w b
  have hCm : ∀ i, i < n → mCame (spCit1 n v t w b) i = mCame v i := fun i hi => by rw [mCame, mCame, spCit1_o _ _ _ _ (by omega)]
  have hCo : ∀ t9 w9 i, i < n → mColP (spCit1 n v t w b) t9 w9 i = mColP v t9 w9 i := fun t9 w9 i hi => by rw [mColP, mColP, spCit1_o _ _ _ _ (by omega), spCit1_o _ _ _ _ (by omega), spCit1_o _ _ _ _ (by omega)]
  have c1 : cnt (mCame (spCit1 n v t w b)) (n + 1) = cnt (mCame v) n := by
    rw [cnt, cnt_congr hCm, mCame, y22]; rfl
  have c2 : ∀ t9 w9, cnt (mColP (spCit1 n v t w b) t9 w9) (n + 1) = cnt (mColP v t9 w9) n := fun t9 w9 => by
    rw [cnt, cnt_congr (hCo t9 w9), mColP, y22]; simp
  refine ⟨⟨rfl, rfl, by omega, s4, s5, s6⟩, h.rt, h.rl, ⟨fun c hc => ?_, fun c hc hc2 => ?_, ?_⟩, ?_, ?_, ?_, fun k hk => ?_, ?_, h.rw⟩
  · by_cases hcn : c = n
    · obtain ⟨z19, z20, z21, z23⟩ := h.rc.2.1 n (Nat.le_refl _) hn
      rw [hcn]
      unfold RC1
      rw [y16, y17, y18, y19, y20, y21, y22, y23, y24, z19, z20, z21, z23]
      simp only [csCit1_r, csCit1_2]
      obtain ⟨q1, q2⟩ := isT_x ht
      obtain ⟨q3, q4⟩ := isC_x (n := 5) (by omega) hw
      have nt : nn t 9 := ⟨q2, by omega⟩
      have nw : nn w 4 := ⟨q4, by omega⟩
      have n0 : nn 0 2000000000 := ⟨rfl, Nat.zero_le _⟩
      simp [cCf, nt, nw, n0]
    · exact RC1_ext (h.rc.1 c (by omega)) (by rw [csCit1_2, if_neg (by omega)]) (fun s => by rw [csCit1_r, if_neg (by omega), if_neg (by omega)]) (fun r _ _ => spCit1_o _ _ _ _ hcn)
  · have := h.rc.2.1 c (by omega) hc2
    rw [spCit1_o _ _ _ _ (by omega), spCit1_o _ _ _ _ (by omega), spCit1_o _ _ _ _ (by omega), spCit1_o _ _ _ _ (by omega)]
    exact this
  · intro κ i j c hq
    rw [csCit1_2] at hq
    by_cases h1 : κ = 8 ∧ i = 0 ∧ j = n
    · rw [if_pos h1] at hq
      have : n = c := Option.some.inj hq
      exact ⟨fun q => by omega, fun _ => by omega⟩
    · rw [if_neg h1] at hq
      have := h.rc.2.2 κ i j c hq
      exact ⟨this.1, fun q => by have := this.2 q; omega⟩
  · obtain ⟨p1, p2, p3, p4, p5, p6⟩ := h.rd
    unfold RD
    rw [c1]
    refine ⟨p1, fun i hi => ?_, fun c hc hq => ?_, fun t9 ht9 w9 hw9 => ?_, fun c hc => ?_, fun t9 ht9 => ?_⟩
    · obtain ⟨c, q1, q2, q3⟩ := p2 i hi
      exact ⟨c, by omega, q2, by rw [spCit1_o _ _ _ _ (by omega)]; exact q3⟩
    · by_cases hcn : c = n
      · rw [hcn] at hq; exact absurd y22 hq
      · rw [spCit1_o _ _ _ _ hcn] at hq
        exact p3 c (by omega) hq
    · rw [c2]; exact p4 t9 ht9 w9 hw9
    · by_cases hcn : c = n
      · rw [hcn, y24, y22, y23, (h.rc.2.1 n (Nat.le_refl _) hn).2.2.2]
        exact ⟨fun q => absurd rfl q, fun q => absurd rfl q⟩
      · rw [spCit1_o _ _ _ _ hcn, spCit1_o _ _ _ _ hcn, spCit1_o _ _ _ _ hcn]
        exact p5 c (by omega)
    · rw [spCit1_f _ _ _ _ (by omega)]; exact p6 t9 ht9
  · obtain ⟨p1, p2, p3⟩ := h.rp
    refine ⟨fun c hc hq => ?_, fun c hc d hd hq e1 e2 e3 => ?_, fun t9 ht9 w9 hw9 p hp => ?_⟩
    · by_cases hcn : c = n
      · rw [hcn] at hq; exact absurd y22 hq
      · rw [spCit1_o _ _ _ _ hcn] at hq
        rw [c2, spCit1_o _ _ _ _ hcn, spCit1_o _ _ _ _ hcn, spCit1_o _ _ _ _ hcn]
        exact p1 c (by omega) hq
    · by_cases hcn : c = n
      · rw [hcn] at hq; exact absurd y22 hq
      · by_cases hdn : d = n
        · rw [hdn, y22] at e1
          exact absurd e1 hq
        · rw [spCit1_o _ _ _ _ hcn] at hq
          rw [spCit1_o _ _ _ _ hcn, spCit1_o _ _ _ _ hdn] at e1 e2 e3
          exact p2 c (by omega) d (by omega) hq e1 e2 e3
    · rw [c2] at hp
      obtain ⟨c, q1, q2⟩ := p3 t9 ht9 w9 hw9 p hp
      refine ⟨c, by omega, ?_⟩
      rw [mAtP, spCit1_o _ _ _ _ (by omega), spCit1_o _ _ _ _ (by omega), spCit1_o _ _ _ _ (by omega)]
      exact q2
  · obtain ⟨r1, r2, r3, r4, r5, r6, r7, r8⟩ := h.rh
    refine ⟨r1, r2, fun i hi => ?_, fun i j hi hj q => ?_, ?_, r6, r7, r8⟩
    · obtain ⟨q1, q2, q3, q4, q5⟩ := r3 i hi
      rw [spCit1_f (r := 26) _ _ _ _ (by omega), spCit1_f (r := 25) _ _ _ _ (by omega), spCit1_o (r := 16) _ _ _ _ (by omega), spCit1_o (r := 22) _ _ _ _ (by omega)]
      exact ⟨q1, q2, by omega, q4, q5⟩
    · rw [spCit1_f (r := 26) _ _ _ _ (by omega), spCit1_f (r := 26) _ _ _ _ (by omega)] at q
      exact r4 i j hi hj q
    · have e : cnt (fun c => !decide ((spCit1 n v t w b).2.1 25 (sI ((spCit1 n v t w b).2.1 16 c)) = 0)) n = cnt (fun c => !decide (v.2.1 25 (sI (v.2.1 16 c)) = 0)) n := cnt_congr (fun i hi => by rw [spCit1_f (r := 25) _ _ _ _ (by omega), spCit1_o (r := 16) _ _ _ _ (by omega)])
      rw [cnt, e]
      exact Nat.le_trans r5 (Nat.le_add_right _ _)
  · exact RK1_ext (RK1_mono (h.rk k hk) (by omega)) (fun κ _ _ s9 => by rw [csCit1_r, if_neg (by omega), if_neg (by omega)]) (fun r _ _ j _ => spCit1_f _ _ _ _ (by omega))
  · obtain ⟨x1, x2⟩ := h.rx
    unfold RX
    simp only [spCit1_f (r := 32) _ _ _ _ (show ¬ (16 ≤ 32 ∧ 32 ≤ 24) by omega), spCit1_f (r := 33) _ _ _ _ (show ¬ (16 ≤ 33 ∧ 33 ≤ 24) by omega), spCit1_f (r := 26) _ _ _ _ (show ¬ (16 ≤ 26 ∧ 26 ≤ 24) by omega)]
    refine ⟨fun k hk i hi => ?_, x2⟩
    obtain ⟨q1, q2⟩ := x1 k hk i hi
    have := ((h.rk k hk).2.1 i hi).2.2
    rw [spCit1_o _ _ _ _ (by omega)]
    exact ⟨q1, q2⟩
end RE8
