/-! disc, suit -/
section RE5
variable {n T : Nat} {x x' : cS} {v v' : mS}
theorem fstn_congr {p q : Nat → Bool} : ∀ (n k : Nat), (∀ i, k ≤ i → i < k + n → p i = q i) → fstn p n k = fstn q n k
  | 0, _, _ => rfl
  | n + 1, k, h => by
    rw [fstn, fstn, h k (Nat.le_refl _) (by omega), fstn_congr n (k + 1) (fun i h1 h2 => h i (by omega) (by omega))]
theorem fInt_congr {p q : Nat → Bool} {n : Nat} (h : ∀ i, i < n → p i = q i) : fInt p n = fInt q n := by
  unfold fInt
  rw [fstn_congr n 0 (fun i _ hi => h i (by omega))]
theorem rel_fInt (h : Rel n T x v) {k : Nat} (hk : k < 5) (c : Int32) : fInt (fun i => decide (x.1 19 k i = c)) (sI (v.2.1 32 k)) = fInt (mSeatP v k c) (sI (v.2.1 32 k)) :=
  fInt_congr (fun i hi => by rw [mSeatP, ((h.rk k hk).2.1 i hi).1])
theorem mrU_f (v : mS) (s i : Nat) (z : Int32) {r : Nat} (h : ¬ r = s) : (mrU v s i z).2.1 r = v.2.1 r := by
  funext b
  rw [mrU_r, if_neg (fun q => h q.1)]
/-- all but the courts is as it was -/
theorem Rel_courts (h : Rel n T x v) (hx : ∀ κ i s, ¬ (18 ≤ κ ∧ κ ≤ 23) → x'.1 κ i s = x.1 κ i s) (hx2 : x'.2.2 = x.2.2) (hv1 : v'.1 = v.1) (hv2 : v'.2.2 = v.2.2) (hv : ∀ r, ¬ (31 ≤ r ∧ r ≤ 47) → v'.2.1 r = v.2.1 r) (hk : RK n x' v') (hX : RX v') : Rel n T x' v' := by
  have x0 := fun i s => hx 0 i s (by decide)
  have x1 := fun i s => hx 1 i s (by decide)
  have x2 := fun i s => hx 2 i s (by decide)
  have x3 := fun i s => hx 3 i s (by decide)
  have x6 := fun i s => hx 6 i s (by decide)
  have x9 := fun i s => hx 9 i s (by decide)
  have x11 := fun i s => hx 11 i s (by decide)
  have x12 := fun i s => hx 12 i s (by decide)
  have x24 := fun i s => hx 24 i s (by decide)
  have x25 := fun i s => hx 25 i s (by decide)
  have x26 := fun i s => hx 26 i s (by decide)
  have v0 := hv 0 (by decide)
  have v10 := hv 10 (by decide)
  have v11 := hv 11 (by decide)
  have v16 := hv 16 (by decide)
  have v17 := hv 17 (by decide)
  have v18 := hv 18 (by decide)
  have v19 := hv 19 (by decide)
  have v20 := hv 20 (by decide)
  have v21 := hv 21 (by decide)
  have v22 := hv 22 (by decide)
  have v23 := hv 23 (by decide)
  have v24 := hv 24 (by decide)
  have v25 := hv 25 (by decide)
  have v26 := hv 26 (by decide)
  have eC : mCame v' = mCame v := by funext i; rw [mCame, mCame, v22]
  have eP : mColP v' = mColP v := by funext t w i; rw [mColP, mColP, v16, v17, v22]
  have eA : mAtP v' = mAtP v := by funext t w r i; rw [mAtP, mAtP, v16, v17, v22]
  refine ⟨?_, ?_, ?_, ?_, ?_, ?_, ?_, hk, hX, ?_⟩
  · have := h.rs
    unfold RS at this ⊢
    simp only [hv1, x0, x3]
    exact this
  · have := h.rt
    unfold RT at this ⊢
    simp only [hv1, x1, x2, v0]
    exact this
  · have := h.rl
    unfold RLw at this ⊢
    simp only [hv1, hx2, x6, x25, x26, v10, v11]
    exact this
  · have := h.rc
    unfold RC RC1 cRef at this ⊢
    simp only [hx2, x24, v16, v17, v18, v19, v20, v21, v22, v23, v24]
    exact this
  · have := h.rd
    unfold RD at this ⊢
    simp only [hx2, x9, x11, x12, v22, v23, v24, v25, eC, eP]
    exact this
  · have := h.rp
    unfold RP at this ⊢
    simp only [v16, v17, v22, eP, eA]
    exact this
  · have := h.rh
    unfold RH at this ⊢
    simp only [hv1, hx2, x9, v16, v22, v25, v26]
    exact this
  · have := h.rw
    unfold RW at this ⊢
    simp only [hv2]
    exact this
theorem RX_ext (h : RX v) (h1 : v'.1 = v.1) (h2 : ∀ r, r = 24 ∨ r = 26 ∨ r = 32 ∨ r = 33 → v'.2.1 r = v.2.1 r) : RX v' := by
  unfold RX at h ⊢
  simp only [h1, h2 24 (by decide), h2 26 (by decide), h2 32 (by decide), h2 33 (by decide)]
  exact h
theorem isC_nI {N s : Nat} (hN : N < 2 ^ 31) (h : s < N) : isC N (nI s) = true := (inR_c hN).mpr ⟨s, h, rfl⟩
theorem isC_m1 (N : Nat) (hN : N < 2 ^ 31) : isC N (-1) = false := (inR_f hN).mpr (fun c hc q => by
  have h1 : (-1 : Int32).toInt = (nI c).toInt := by rw [q]
  have h2 : 0 ≤ (nI c).toInt := nn_pos (nn_nI (k := c) (N := c) (Nat.le_refl _) (by omega)) (by omega)
  rw [← h1] at h2
  exact absurd h2 (by decide))
theorem d01 {d : Int32} (h : inR 0 1 d = true) : ¬ d = -1 := fun q => by
  rw [q] at h
  exact absurd h (by decide)
theorem rel_disc (h : Rel n T x v) (k c d : Int32) : (csDisc x (fun k => sI (v.2.1 32 k)) (fun k => sI (x.1 20 k 5)) k c d).1 = (spDisc (fun k => sI (v.2.1 32 k)) v k c d).1 ∧ Rel n T (csDisc x (fun k => sI (v.2.1 32 k)) (fun k => sI (x.1 20 k 5)) k c d).2 (spDisc (fun k => sI (v.2.1 32 k)) v k c d).2 := by
  unfold csDisc spDisc dSeat
  dsimp only
  have hq : (isK k = true ∧ ¬ d < 0 ∧ d ≤ 1) ↔ (isK k && inR 0 1 d) = true := by
    rw [Bool.and_eq_true_iff, inR_b (lo := 0) (hi := 1) (q := d), Int32.not_lt, le_toI, le_toI]
    exact Iff.rfl
  by_cases h1 : (isK k && inR 0 1 d) = true
  · rw [if_pos (hq.mpr h1), if_pos h1]
    have hk := (hq.mpr h1).1
    have hd := (Bool.and_eq_true_iff.mp h1).2
    obtain ⟨hk5, -⟩ := isK_x hk
    obtain ⟨a, b, c9, ⟨d1, d2, d3⟩, ⟨e1, e2, e3, e4, e5, e6, e7, e8⟩, f, g, o⟩ := h.rk _ hk5
    have hN := a.2.2.2.1.2
    unfold cTk
    rw [rel_fInt h hk5, d2, e8]
    by_cases h36 : v.2.1 36 (sI k) = 0
    · rw [if_pos (Or.inl h36), if_pos (Or.inl h36)]; exact ⟨rfl, h⟩
    · obtain ⟨o1, o2, o3⟩ := o h36
      obtain ⟨g1, g2, g3⟩ := g o1
      rw [g1]
      generalize hs : fstn (mSeatP v (sI k) c) (sI (v.2.1 32 (sI k))) 0 = s
      by_cases h2 : s < sI (v.2.1 32 (sI k))
      · have ef : fInt (mSeatP v (sI k) c) (sI (v.2.1 32 (sI k))) = nI s := by rw [← hs]; exact fInt_s (by rw [hs]; exact h2)
        have es : sI (nI s) = s := sI_nI (by omega)
        obtain ⟨c1, c2⟩ := c9 s (by omega)
        rw [ef, isC_nI (by omega) h2, es, c1, c2]
        by_cases h3 : v.2.1 34 (25 * sI k + s) = -1 ∧ v.2.1 35 (25 * sI k + s) = 0 ∧ v.2.1 44 (sI k) = 0
        · obtain ⟨p1, p2, p3⟩ := h3
          have n1 : ¬ (v.2.1 36 (sI k) = 0 ∨ ¬ v.2.1 44 (sI k) = 0 ∨ true = false ∨ ¬ v.2.1 35 (25 * sI k + s) = 0 ∨ ¬ v.2.1 34 (25 * sI k + s) = -1) := by
            rintro (q | q | q | q | q)
            · exact h36 q
            · exact q p3
            · exact absurd q (by decide)
            · exact q p2
            · exact q p1
          have n2 : ¬ (v.2.1 36 (sI k) = 0 ∨ ¬ s < sI (v.2.1 32 (sI k)) ∨ ¬ v.2.1 34 (25 * sI k + s) = -1 ∨ ¬ v.2.1 35 (25 * sI k + s) = 0 ∨ ¬ v.2.1 44 (sI k) = 0) := by
            rintro (q | q | q | q | q)
            · exact h36 q
            · exact q h2
            · exact q p1
            · exact q p2
            · exact q p3
          rw [if_neg n1, if_neg n2]
          have hR : Rel n T (cDz x (sI k) s d) (mrU v 34 (25 * sI k + s) d) := by
            unfold cDz
            refine ⟨h.rs, h.rt, h.rl, h.rc, h.rd, h.rp, h.rh, fun k9 hk9 => ?_, h.rx, h.rw⟩
            by_cases hkk : k9 = sI k
            · subst hkk
              have hany : anyn (mHasP (mrU v 34 (25 * sI k + s) d) (sI k)) (sI (v.2.1 32 (sI k))) = true := anyn_t h2 (by rw [mHasP, mrU_r, if_pos ⟨rfl, rfl⟩]; simp [d01 hd])
              unfold RK1
              simp only [cI_r, mrU_r]
              refine ⟨a, b, fun i hi => ?_, ⟨d1, d2, d3⟩, ⟨e1, e2, e3, e4, e5, e6, e7, e8⟩, f, fun q => g q, fun q => ⟨o1, ?_, o3⟩⟩
              · by_cases hi2 : i = s
                · subst hi2; simp [c2]
                · have := c9 i hi
                  simpa [hi2] using this
              · simp only [show ¬ (32 = 34) by decide, false_and, if_false]
                rw [hany]; rfl
            · exact RK1_ext (h.rk k9 hk9) (fun κ _ _ s9 => by rw [cI_r, if_neg (by omega), cI_r, if_neg (by omega)]) (fun r _ _ j hj => by rw [mrU_r, if_neg (by omega)])
          refine ⟨?_, hR⟩
          show nI _ = nI _
          rw [show cnt (cWt (cDz x (sI k) s d) (sI k)) (sI (v.2.1 32 (sI k))) = mDiscs (mrU v 34 (25 * sI k + s) d) (sI k) 2 (sI (v.2.1 32 (sI k))) from cnt_congr (fun i hi => (rel_ct hR hk5 (by omega)).2.2.1)]
        · have p1 : (v.2.1 36 (sI k) = 0 ∨ ¬ v.2.1 44 (sI k) = 0 ∨ true = false ∨ ¬ v.2.1 35 (25 * sI k + s) = 0 ∨ ¬ v.2.1 34 (25 * sI k + s) = -1) := Classical.byContradiction (fun q => h3 ⟨Classical.byContradiction (fun q1 => q (Or.inr (Or.inr (Or.inr (Or.inr q1))))), Classical.byContradiction (fun q1 => q (Or.inr (Or.inr (Or.inr (Or.inl q1))))), Classical.byContradiction (fun q1 => q (Or.inr (Or.inl q1)))⟩)
          have p2 : (v.2.1 36 (sI k) = 0 ∨ ¬ s < sI (v.2.1 32 (sI k)) ∨ ¬ v.2.1 34 (25 * sI k + s) = -1 ∨ ¬ v.2.1 35 (25 * sI k + s) = 0 ∨ ¬ v.2.1 44 (sI k) = 0) := Classical.byContradiction (fun q => h3 ⟨Classical.byContradiction (fun q1 => q (Or.inr (Or.inr (Or.inl q1)))), Classical.byContradiction (fun q1 => q (Or.inr (Or.inr (Or.inr (Or.inl q1))))), Classical.byContradiction (fun q1 => q (Or.inr (Or.inr (Or.inr (Or.inr q1)))))⟩)
          rw [if_pos p1, if_pos p2]; exact ⟨rfl, h⟩
      · have ef : fInt (mSeatP v (sI k) c) (sI (v.2.1 32 (sI k))) = -1 := (fInt_m1 (by omega)).mpr (by rw [hs]; exact h2)
        rw [ef, isC_m1 _ (by omega), if_pos (Or.inr (Or.inr (Or.inl rfl))), if_pos (Or.inr (Or.inl h2))]
        exact ⟨rfl, h⟩
  · rw [if_neg (fun q9 => h1 (hq.mp q9)), if_neg h1]
    exact ⟨rfl, h⟩
theorem suD_f (u : mS) (K : Nat) {r : Nat} (h : ¬ r = 34) (h2 : ¬ r = 35) : ∀ j, (suD u K j).2.1 r = u.2.1 r
  | 0 => rfl
  | j + 1 => by rw [suD, mrU_f _ _ _ _ h2, mrU_f _ _ _ _ h, suD_f u K h h2 j]
theorem suD_1 (u : mS) (K : Nat) : ∀ j, (suD u K j).1 = u.1 ∧ (suD u K j).2.2 = u.2.2
  | 0 => ⟨rfl, rfl⟩
  | j + 1 => suD_1 u K j
theorem suD_4 (u : mS) (K : Nat) : ∀ j b, (suD u K j).2.1 34 b = (if 25 * K ≤ b ∧ b < 25 * K + j then -1 else u.2.1 34 b)
  | 0, b => by rw [if_neg (by omega)]; rfl
  | j + 1, b => by
    rw [suD, mrU_f _ _ _ _ (by decide), mrU_r, suD_4 u K j b]
    by_cases hb : b = 25 * K + j
    · rw [if_pos ⟨rfl, hb⟩, if_pos (by omega)]
    · rw [if_neg (fun q => hb q.2)]
      by_cases hb2 : 25 * K ≤ b ∧ b < 25 * K + j
      · rw [if_pos hb2, if_pos (by omega)]
      · rw [if_neg hb2, if_neg (by omega)]
theorem suD_5 (u : mS) (K : Nat) : ∀ j b, (suD u K j).2.1 35 b = (if 25 * K ≤ b ∧ b < 25 * K + j then 0 else u.2.1 35 b)
  | 0, b => by rw [if_neg (by omega)]; rfl
  | j + 1, b => by
    rw [suD, mrU_r, mrU_f _ _ _ _ (by decide), suD_5 u K j b]
    by_cases hb : b = 25 * K + j
    · rw [if_pos ⟨rfl, hb⟩, if_pos (by omega)]
    · rw [if_neg (fun q => hb q.2)]
      by_cases hb2 : 25 * K ≤ b ∧ b < 25 * K + j
      · rw [if_pos hb2, if_pos (by omega)]
      · rw [if_neg hb2, if_neg (by omega)]
theorem rel_min (h : Rel n T x v) {q : Int32} (hq : inR 0 5 q = true) (s : Int32) : cSuWa x T q s = suMin T v q s := by
  obtain ⟨hq6, -⟩ := isC_x (n := 6) (by omega) hq
  unfold cSuWa cWat suMin
  obtain ⟨l1, l2, l3, -⟩ := lwv_k (fun z => mLaw v (v.1 14) T z) (oI (fB v (v.1 14) T)) (sI q) hq6
  rw [h.rs.2.2.2.1, rel_val h _ (by omega), rel_val h _ (by omega), rel_val h _ (by omega), l1, l2, l3]
theorem rel_par (h : Rel n T x v) {k : Nat} (hk : k < 5) (t : Int32) : cPar x k (sI (v.2.1 32 k)) n t = true ↔ (isC n t = true ∧ ¬ dSeat (fun k => sI (v.2.1 32 k)) v k t < sI (v.2.1 32 k)) := by
  have hN := (h.rk k hk).1.2.2.2.1.2
  unfold cPar
  rw [rel_fInt h hk, Bool.and_eq_true_iff, decide_eq_true_iff, fInt_m1 (by omega)]
  exact Iff.rfl
theorem okSuit_iff (h : Rel n T x v) (k q ac bc s : Int32) : okSuit9 x n (fun k => sI (v.2.1 32 k)) k q ac bc s ↔ okSuit n (fun k => sI (v.2.1 32 k)) v k q ac bc s = true := by
  unfold okSuit9 okSuit
  by_cases hk : isK k = true
  · obtain ⟨hk5, -⟩ := isK_x hk
    rw [rel_par h hk5, rel_par h hk5]
    simp only [Bool.and_eq_true_iff, Bool.not_eq_true', decide_eq_false_iff_not, inR_b (lo := 0) (hi := 1000000) (q := s), Int32.not_lt, le_toI]
    constructor
    · rintro ⟨a, b, c, d, e, ⟨f1, f2⟩, g1, g2⟩; exact ⟨a, b, f1, g1, e, ⟨c, d⟩, f2, g2⟩
    · rintro ⟨a, b, f1, g1, e, ⟨c, d⟩, f2, g2⟩; exact ⟨a, b, c, d, e, ⟨f1, f2⟩, g1, g2⟩
  · constructor
    · intro q9; exact absurd q9.1 hk
    · intro q9; exact absurd (Bool.and_eq_true_iff.mp q9).1 hk
theorem suE_f (v : mS) (K : Nat) (q ac bc s mn : Int32) {r : Nat} (h : ¬ (34 ≤ r ∧ r ≤ 47)) : (suD (suC (suB (suA v K q ac bc s) K mn) K) K 25).2.1 r = v.2.1 r := by
  rw [suD_f _ _ (by omega) (by omega)]
  unfold suC suB suA
  simp only [mrU_f _ _ _ _ (show ¬ r = 36 by omega), mrU_f _ _ _ _ (show ¬ r = 37 by omega), mrU_f _ _ _ _ (show ¬ r = 38 by omega), mrU_f _ _ _ _ (show ¬ r = 39 by omega), mrU_f _ _ _ _ (show ¬ r = 40 by omega), mrU_f _ _ _ _ (show ¬ r = 41 by omega), mrU_f _ _ _ _ (show ¬ r = 42 by omega), mrU_f _ _ _ _ (show ¬ r = 43 by omega), mrU_f _ _ _ _ (show ¬ r = 44 by omega), mrU_f _ _ _ _ (show ¬ r = 45 by omega), mrU_f _ _ _ _ (show ¬ r = 46 by omega), mrU_f _ _ _ _ (show ¬ r = 47 by omega)]
set_option maxHeartbeats 2000000 in
theorem rel_suit (h : Rel n T x v) (k q ac bc s : Int32) (hok : okSuit9 x n (fun k => sI (v.2.1 32 k)) k q ac bc s) : (csSuit x T k q ac bc s).1 = (spSuit n T (fun k => sI (v.2.1 32 k)) v k q ac bc s).1 ∧ Rel n T (csSuit x T k q ac bc s).2 (spSuit n T (fun k => sI (v.2.1 32 k)) v k q ac bc s).2 := by
  have hok2 := (okSuit_iff h k q ac bc s).mp hok
  unfold csSuit spSuit
  rw [if_pos hok2]
  obtain ⟨hk, h6, s0, s1, hab, pa, pb⟩ := hok
  obtain ⟨hk5, -⟩ := isK_x hk
  obtain ⟨hq6, eq⟩ := isC_x (n := 6) (by omega) h6
  obtain ⟨ha, ha2⟩ := (rel_par h hk5 ac).mp pa
  obtain ⟨hb, hb2⟩ := (rel_par h hk5 bc).mp pb
  have hn := h.rs.2.2.1
  obtain ⟨a, b, c9, ⟨d1, d2, d3⟩, ⟨e1, e2, e3, e4, e5, e6, e7, e8⟩, f, g, o⟩ := h.rk _ hk5
  have hiff : (x.1 18 (sI k) 2 = 0 ∨ ¬ x.1 18 (sI k) 2 ≤ x.1 18 (sI k) 3 ∨ ¬ x.1 20 (sI k) 4 = 0) ↔ (v.2.1 31 (sI k) = 0 ∨ v.2.1 32 (sI k) < v.2.1 31 (sI k) ∨ ¬ v.2.1 36 (sI k) = 0) := by rw [a.1, a.2.2.1, d2, Int32.not_le]
  rw [rel_min h h6 s]
  by_cases h1 : (v.2.1 31 (sI k) = 0 ∨ v.2.1 32 (sI k) < v.2.1 31 (sI k) ∨ ¬ v.2.1 36 (sI k) = 0)
  · rw [if_pos (hiff.mpr h1), if_pos h1]; exact ⟨rfl, h⟩
  · rw [if_neg (fun q9 => h1 (hiff.mp q9)), if_neg h1]
    refine ⟨rfl, ?_⟩
    generalize suMin T v q s = mn
    have e31 : v.2.1 31 (sI k) = v.2.1 32 (sI k) := by
      have q1 : ¬ v.2.1 32 (sI k) < v.2.1 31 (sI k) := fun q9 => h1 (Or.inr (Or.inl q9))
      obtain ⟨a1, a2, a3, a4, a5⟩ := a
      have q2 : ¬ sI (v.2.1 32 (sI k)) < sI (v.2.1 31 (sI k)) := fun q9 => q1 (by rw [a2.1, a4.1]; exact (nI_ltI (by have := a4.2; omega) (by have := a2.2; omega)).mpr q9)
      rw [a2.1, a4.1, show sI (v.2.1 31 (sI k)) = sI (v.2.1 32 (sI k)) by omega]
    have hs : nn s 1000000 := by
      obtain ⟨j, hj, ej⟩ := nI_of (x := s) s0
      exact nn_of ej ((nI_leI hj (by decide)).mp (by rw [← ej]; exact s1)) (by omega)
    have nac : ac = nI (sI ac) ∧ sI ac < n := (isC_x hn ha).symm
    have nbc : bc = nI (sI bc) ∧ sI bc < n := (isC_x hn hb).symm
    have nq : nn q 5 := ⟨eq, by omega⟩
    refine Rel_courts h (fun κ i s9 hκ => ?_) rfl ((suD_1 _ _ 25).1) ((suD_1 _ _ 25).2) (fun r hr => suE_f v _ _ _ _ _ _ (by omega)) (fun k9 hk9 => ?_) (RX_ext h.rx ((suD_1 _ _ 25).1) (fun r hr => suE_f v _ _ _ _ _ _ (by omega)))
    · unfold cPrep cBegin cForg
      simp only [cI_r, cF_r]
      have n20 : ¬ κ = 20 := by omega
      have n21 : ¬ κ = 21 := by omega
      have n22 : ¬ κ = 22 := by omega
      have n23 : ¬ κ = 23 := by omega
      simp only [n20, n21, n22, n23, false_and, if_false]
    · by_cases hkk : k9 = sI k
      · subst hkk
        unfold RK1
        rw [suE_f v _ _ _ _ _ _ (show ¬ (34 ≤ 31 ∧ 31 ≤ 47) by decide), suE_f v _ _ _ _ _ _ (show ¬ (34 ≤ 32 ∧ 32 ≤ 47) by decide), suE_f v _ _ _ _ _ _ (show ¬ (34 ≤ 33 ∧ 33 ≤ 47) by decide)]
        have ss : ∀ r, 36 ≤ r → ∀ b9, (suD (suC (suB (suA v (sI k) q ac bc s) (sI k) mn) (sI k)) (sI k) 25).2.1 r b9 = (suC (suB (suA v (sI k) q ac bc s) (sI k) mn) (sI k)).2.1 r b9 := fun r hr b9 => congrFun (suD_f _ _ (by omega) (by omega) 25) b9
        have hany : anyn (mHasP (suD (suC (suB (suA v (sI k) q ac bc s) (sI k) mn) (sI k)) (sI k) 25) (sI k)) (sI (v.2.1 32 (sI k))) = false := anyn_f (fun i hi => by
          have := a.2.2.2.1.2
          rw [mHasP, suD_4, if_pos (by omega)]; rfl)
        rw [ss 36 (by decide), ss 37 (by decide), ss 38 (by decide), ss 39 (by decide), ss 40 (by decide), ss 41 (by decide), ss 42 (by decide), ss 42 (by decide), ss 43 (by decide), ss 44 (by decide), ss 45 (by decide), ss 46 (by decide), ss 47 (by decide), hany]
        unfold cPrep cBegin cForg suC suB suA
        simp only [cI_r, cF_r, mrU_r]
        refine ⟨?_, ?_, ?_, ?_, ?_, ?_, ?_, ?_⟩
        · simpa using a
        · simpa using b
        · intro i hi
          have hin : 25 * sI k ≤ 25 * sI k + i ∧ 25 * sI k + i < 25 * sI k + 25 := by omega
          rw [suD_4, suD_5, if_pos hin, if_pos hin]
          simp [hi]
        · have := a.2.1; simp [a.1, this]
        · simp
        · simp
        · intro _
          refine ⟨by simp [a.1, e31], e31, fun q9 => h1 (Or.inl q9)⟩
        · intro _
          refine ⟨by simp, by simp; rfl, by simpa using nq, by simpa using nac, by simpa using nbc, by simpa using hs, by simp⟩
      · refine RK1_ext (h.rk k9 hk9) (fun κ _ _ s9 => ?_) (fun r _ _ j hj => ?_)
        · unfold cPrep cBegin cForg
          simp only [cI_r, cF_r, hkk, false_and, and_false, if_false]
        · by_cases h34 : 34 ≤ r ∧ r ≤ 35
          · rcases (show r = 34 ∨ r = 35 by omega) with q9 | q9
            · subst q9
              rw [suD_4, if_neg (by omega)]
              unfold suC suB suA
              simp only [mrU_r]
              simp
            · subst q9
              rw [suD_5, if_neg (by omega)]
              unfold suC suB suA
              simp only [mrU_r]
              simp
          · rw [congrFun (suD_f _ _ (by omega) (by omega) 25) j]
            unfold suC suB suA
            simp only [mrU_r]
            rw [if_neg (by omega), if_neg (by omega), if_neg (by omega), if_neg (by omega), if_neg (by omega), if_neg (by omega), if_neg (by omega), if_neg (by omega), if_neg (by omega), if_neg (by omega), if_neg (by omega), if_neg (by omega), if_neg (by omega)]
end RE5
