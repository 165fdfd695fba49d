/-! draw: rows, the whole -/
section REG
variable {n T : Nat} {x x' : cS} {v v' : mS}
def tkX (v : mS) (t : Int32) (n r l : Nat) : Nat := fstn (mAtP v t (nI l) (nI r)) n 0
theorem rel_tk (h : Rel n T x v) {t : Int32} (ht : isT t = true) {r l : Nat} (hr : r < mRows v t n) (hl : l < 5) : tkX v t n r l < n ∧ v.2.1 16 (tkX v t n r l) = t ∧ v.2.1 17 (tkX v t n r l) = nI l ∧ v.2.1 22 (tkX v t n r l) = nI r ∧ drC v t n r l = nI (tkX v t n r l) := by
  obtain ⟨ht10, et⟩ := isT_x ht
  have h1 : mRows v t n ≤ cnt (mColP v t (nI l)) n := mMin_c v t n 4 l (by omega)
  obtain ⟨c, hc, hp⟩ := h.rp.2.2 (sI t) ht10 l hl r (by rw [← et]; omega)
  rw [← et] at hp
  have hlt : tkX v t n r l < n := by
    unfold tkX
    have := fstn_le (p := mAtP v t (nI l) (nI r)) n 0 c (Nat.zero_le _) (by omega) hp
    omega
  have hq := fstn_p (p := mAtP v t (nI l) (nI r)) (n := n) hlt
  rw [show fstn (mAtP v t (nI l) (nI r)) n 0 = tkX v t n r l from rfl] at hq
  unfold mAtP at hq
  simp only [Bool.and_eq_true_iff, decide_eq_true_iff] at hq
  exact ⟨hlt, hq.1, hq.2.1, hq.2.2, fInt_s hlt⟩
theorem rel_row (h0 : Rel n T x' v') {t : Int32} (ht : isT t = true) {r m : Nat} {X : cS} {u : mS} (h : Rel n T X u) (hr : r < mRows v' t n) (e16 : u.2.1 16 = v'.2.1 16) (e17 : u.2.1 17 = v'.2.1 17) (e22 : u.2.1 22 = v'.2.1 22) (h25 : ¬ u.2.1 25 (sI t) = 0) (hm : u.1 27 = nI m) (hN : ∀ i, i < m → v'.2.1 16 (sI (u.2.1 26 i)) = t → sI (v'.2.1 22 (sI (u.2.1 26 i))) < r) (hb : m + 5 ≤ cnt (fun c => !decide (u.2.1 25 (sI (u.2.1 16 c)) = 0)) n) : ∀ l, l ≤ 5 → Rel n T (cCh X (tkX v' t n r) m l) (drL v' t n r u l) ∧ ∀ i, i < m + l → v'.2.1 16 (sI ((drL v' t n r u l).2.1 26 i)) = t → sI (v'.2.1 22 (sI ((drL v' t n r u l).2.1 26 i))) < r ∨ (sI (v'.2.1 22 (sI ((drL v' t n r u l).2.1 26 i))) = r ∧ sI (v'.2.1 17 (sI ((drL v' t n r u l).2.1 26 i))) < l)
  | 0, _ => ⟨h, fun i hi q => Or.inl (hN i hi q)⟩
  | l + 1, hl => by
    obtain ⟨i1, i2⟩ := rel_row h0 ht h hr e16 e17 e22 h25 hm hN hb l (by omega)
    have hn := h0.rs.2.2.1
    have hR := mRows_le v' t n
    obtain ⟨c1, c2, c3, c4, c5⟩ := rel_tk h0 ht hr (show l < 5 by omega)
    have kp := drL_keep v' t n r u l
    have k27 := drL_27 (v := v') (t := t) (n := n) (r := r) hm l
    have hcn := cnt_le (fun c => !decide (u.2.1 25 (sI (u.2.1 16 c)) = 0)) n
    rw [cCh, drL, c5, k27, nI_1, sI_nI (show tkX v' t n r l < 2 ^ 31 by omega), sI_nI (show m + l < 2 ^ 31 by omega)]
    have hnew : ∀ i, i < m + l → ¬ (drL v' t n r u l).2.1 26 i = nI (tkX v' t n r l) := fun i hi q => by
      have e : sI ((drL v' t n r u l).2.1 26 i) = tkX v' t n r l := by rw [q]; exact sI_nI (by omega)
      have := i2 i hi (by rw [e]; exact c2)
      rw [e, c4, c3, sI_nI (show r < 2 ^ 31 by omega), sI_nI (show l < 2 ^ 31 by omega)] at this
      omega
    refine ⟨rel_sel i1 c1 ?_ ?_ k27 hnew ?_, fun i hi q => ?_⟩
    · rw [kp.2.1 22 (by decide) (by decide), e22, c4]
      exact nI_ne1 (by omega)
    · rw [kp.2.1 25 (by decide) (by decide), kp.2.1 16 (by decide) (by decide), e16, c2]
      exact h25
    · rw [kp.2.1 25 (by decide) (by decide), kp.2.1 16 (by decide) (by decide)]
      omega
    · have e26 : (miU (mrU (mrU (drL v' t n r u l) 23 (tkX v' t n r l) 1) 26 (m + l) (nI (tkX v' t n r l))) 27 (nI (m + l + 1))).2.1 26 i = if i = m + l then nI (tkX v' t n r l) else (drL v' t n r u l).2.1 26 i := by
        rw [miU_s, mrU_r, mrU_f _ _ _ _ (by decide)]; simp
      rw [e26] at q ⊢
      by_cases him : i = m + l
      · rw [if_pos him] at q ⊢
        rw [sI_nI (show tkX v' t n r l < 2 ^ 31 by omega), c4, c3, sI_nI (show r < 2 ^ 31 by omega), sI_nI (show l < 2 ^ 31 by omega)]
        exact Or.inr ⟨rfl, by omega⟩
      · rw [if_neg him] at q ⊢
        rcases i2 i (by omega) q with q1 | q1
        · exact Or.inl q1
        · exact Or.inr ⟨q1.1, by omega⟩
theorem dr_25 (v : mS) (t : Int32) (n R ww : Nat) (num : Int64) : ∀ r, (dr v t n R ww num r).2.2.2.1 25 = (mrU v 25 (sI t) 1).2.1 25
  | 0 => rfl
  | r + 1 => by
    rw [dr]
    split
    · exact dr_25 v t n R ww num r
    · split
      · exact ((drL_keep v t n r (dr v t n R ww num r).2.2 5).2.1 25 (by decide) (by decide)).trans (dr_25 v t n R ww num r)
      · exact dr_25 v t n R ww num r
theorem rel_drs (h : Rel n T x v) {t : Int32} (ht : isT t = true) (h0 : v.2.1 25 (sI t) = 0) {ww k0 : Nat} (hww : ww ≤ mRows v t n) (hk0 : k0 < ch (mRows v t n) ww) : ∀ r, r ≤ mRows v t n → (cDr x (tkX v t n) (mRows v t n) ww (lN k0) (sI (v.1 27)) r).1 = (dr v t n (mRows v t n) ww (lN k0) r).1 ∧ (cDr x (tkX v t n) (mRows v t n) ww (lN k0) (sI (v.1 27)) r).2.1 = (dr v t n (mRows v t n) ww (lN k0) r).2.1 ∧ (∃ k, (dr v t n (mRows v t n) ww (lN k0) r).1 = lN k ∧ k < ch (mRows v t n - r) (dr v t n (mRows v t n) ww (lN k0) r).2.1) ∧ Rel n T (cI (cDr x (tkX v t n) (mRows v t n) ww (lN k0) (sI (v.1 27)) r).2.2 12 0 (sI t) 1) (dr v t n (mRows v t n) ww (lN k0) r).2.2 ∧ ∀ i, i < sI (v.1 27) + 5 * (ww - (dr v t n (mRows v t n) ww (lN k0) r).2.1) → v.2.1 16 (sI ((dr v t n (mRows v t n) ww (lN k0) r).2.2.2.1 26 i)) = t → sI (v.2.1 22 (sI ((dr v t n (mRows v t n) ww (lN k0) r).2.2.2.1 26 i))) < r
  | 0, _ => by
    refine ⟨rfl, rfl, ⟨k0, rfl, hk0⟩, rel_dr0 h ht h0, fun i hi q => ?_⟩
    exfalso
    have hi' : i < sI (v.1 27) := by
      have : (dr v t n (mRows v t n) ww (lN k0) 0).2.1 = ww := rfl
      rw [this] at hi
      omega
    obtain ⟨-, -, -, d, -⟩ := h.rh.2.2.1 i hi'
    have q' : v.2.1 16 (sI (v.2.1 26 i)) = t := q
    rw [q'] at d
    exact d h0
  | r + 1, hr => by
    obtain ⟨i1, i2, ⟨k, i3, i4⟩, i5, i6⟩ := rel_drs h ht h0 hww hk0 r (by omega)
    have hn := h.rs.2.2.1
    have hR := mRows_le v t n
    have d27 := dr_27 (v := v) (cm := sI (v.1 27)) h.rh.2.1.1 t n (mRows v t n) ww (lN k0) r
    have kp := dr_keep v t n (mRows v t n) ww (lN k0) r
    have d25 := dr_25 v t n (mRows v t n) ww (lN k0) r
    rw [cDr, dr, i1, i2]
    generalize hw9 : (dr v t n (mRows v t n) ww (lN k0) r).2.1 = w9 at *
    by_cases hw : w9 = 0
    · rw [if_pos hw, if_pos hw]
      refine ⟨i1, i2.trans hw9.symm, ⟨k, i3, ?_⟩, i5, fun i hi q => ?_⟩
      · rw [hw9, hw, ch_0]
        rw [hw, ch_0] at i4
        exact i4
      · rw [hw9] at hi
        have := i6 i hi q
        omega
    · rw [if_neg hw, if_neg hw]
      have hle : w9 ≤ mRows v t n - r := Nat.not_lt.mp (fun q => by rw [ch_lt q] at i4; omega)
      have eW : drW v (mRows v t n) r w9 = lN (ch (mRows v t n - r - 1) (w9 - 1)) := h.rw _ _ (by omega) (by omega)
      have ess : ch (mRows v t n - r) w9 = ch (mRows v t n - r - 1) (w9 - 1) + ch (mRows v t n - r - 1) w9 := by
        have := ch_ss (mRows v t n - r - 1) (w9 - 1)
        rw [show mRows v t n - r - 1 + 1 = mRows v t n - r by omega, show w9 - 1 + 1 = w9 by omega] at this
        exact this
      have b1 : ch (mRows v t n - r - 1) (w9 - 1) < 2 ^ 63 := by
        have a1 := ch_le (mRows v t n - r - 1) (w9 - 1)
        have a2 : 2 ^ (mRows v t n - r - 1) ≤ 2 ^ 30 := Nat.pow_le_pow_right (by omega) (by omega)
        omega
      have b2 : k < 2 ^ 63 := by
        have a1 := ch_le (mRows v t n - r) w9
        have a2 : 2 ^ (mRows v t n - r) ≤ 2 ^ 30 := Nat.pow_le_pow_right (by omega) (by omega)
        omega
      rw [eW, i3]
      by_cases hlt : k < ch (mRows v t n - r - 1) (w9 - 1)
      · have hlt2 : lN k < lN (ch (mRows v t n - r - 1) (w9 - 1)) := (lN_ltI b2 b1).mpr hlt
        rw [if_pos hlt2, if_pos hlt2]
        have hroom := (rel_room h ht h0).1
        have row := rel_row h ht i5 (show r < mRows v t n by omega) (kp.2.1 16 (by decide) (by decide) (by decide)) (kp.2.1 17 (by decide) (by decide) (by decide)) (kp.2.1 22 (by decide) (by decide) (by decide)) (by rw [d25, mrU_r, if_pos ⟨rfl, rfl⟩]; decide) d27.2 i6 (by
          rw [d25, kp.2.1 16 (by decide) (by decide) (by decide)]
          rw [mrU_f _ _ _ _ (show ¬ 16 = 25 by decide)] at hroom
          have := d27.1
          omega) 5 (Nat.le_refl _)
        refine ⟨rfl, rfl, ⟨k, rfl, hlt⟩, ?_, fun i hi q => ?_⟩
        · rw [cCh_cm] at row
          exact row.1
        · have := row.2 i (by
            have := d27.1
            have hi' : i < sI (v.1 27) + 5 * (ww - (w9 - 1)) := hi
            omega) q
          rcases this with q1 | q1
          · exact Nat.lt_succ_of_lt q1
          · have := q1.1
            exact Nat.lt_succ_of_le (Nat.le_of_eq this)
      · have hlt2 : ¬ lN k < lN (ch (mRows v t n - r - 1) (w9 - 1)) := fun q => hlt ((lN_ltI b2 b1).mp q)
        rw [if_neg hlt2, if_neg hlt2]
        refine ⟨rfl, rfl, ⟨k - ch (mRows v t n - r - 1) (w9 - 1), lN_sb (by omega), ?_⟩, i5, fun i hi q => ?_⟩
        · show _ < ch (mRows v t n - (r + 1)) w9
          rw [show mRows v t n - (r + 1) = mRows v t n - r - 1 by omega]
          omega
        · exact Nat.lt_succ_of_lt (i6 i hi q)
theorem cHo_x (h : Rel n T x v) {c : Nat} (hc : c < n) (t w r : Int32) : cHo x t w r c = mAtP v t w r c := by
  obtain ⟨g1, g2, g3, g4, g5, g6, g7, g8, g9, g10, g11, g12, -⟩ := h.rc.1 _ hc
  rw [cHo, mAtP, g3, g5, g12]
theorem rel_tkO (h : Rel n T x v) {t : Int32} (ht : isT t = true) {r l : Nat} (hr : r < mRows v t n) (hl : l < 5) : fOpt (fun i => cHo x t (nI l) (nI r) (cmX x i)) (cnt (mCame v) n) (cmX x) = some (tkX v t n r l) := by
  obtain ⟨c1, c2, c3, c4, c5⟩ := rel_tk h ht hr hl
  have hn := h.rs.2.2.1
  have hR := mRows_le v t n
  obtain ⟨i, hi, ei⟩ := h.rd.2.2.1 _ c1 (by rw [c4]; exact nI_ne1 (by omega))
  have ec : cmX x i = tkX v t n r l := by rw [cmX, ei]; rfl
  have hp : cHo x t (nI l) (nI r) (cmX x i) = true := by
    rw [ec, cHo_x h c1, mAtP, c2, c3, c4]; simp
  have hlt : fstn (fun i => cHo x t (nI l) (nI r) (cmX x i)) (cnt (mCame v) n) 0 < cnt (mCame v) n := by
    have := fstn_le (p := fun i => cHo x t (nI l) (nI r) (cmX x i)) (cnt (mCame v) n) 0 i (Nat.zero_le _) (by omega) hp
    omega
  have hq := fstn_p hlt
  rw [fOpt, if_pos hlt]
  congr 1
  generalize fstn (fun i => cHo x t (nI l) (nI r) (cmX x i)) (cnt (mCame v) n) 0 = j at hlt hq
  have hj := (rel_cm h j hlt).2
  rw [cHo_x h hj, mAtP] at hq
  simp only [Bool.and_eq_true_iff, decide_eq_true_iff] at hq
  exact h.rp.2.1 _ hj _ c1 (by rw [hq.2.2]; exact nI_ne1 (by omega)) (by rw [hq.2.2, c4]) (by rw [hq.1, c2]) (by rw [hq.2.1, c3])
theorem okDraw_x (h : Rel n T x v) (t w : Int32) (num : Int64) : okDraw9 (coX x) t w num = okDraw n v t w num := by
  unfold okDraw9 okDraw
  rw [rel_can h]
  by_cases h1 : (isT t && inR 0 (mRows v t n) w) = true
  · obtain ⟨a1, a2⟩ := Bool.and_eq_true_iff.mp h1
    obtain ⟨a, b⟩ := isT_x a1
    have h2 := mRows_le v t n
    have h3 := h.rs.2.2.1
    have a3 := a2
    rw [← inR_N] at a3
    obtain ⟨c, d⟩ := isC_x (by omega) a3
    rw [a1, a2, rel_rows h a, ← b, h.rw _ _ (by omega) (by omega)]
    have b1 : ch (mRows v t n) (sI w) < 2 ^ 62 := by
      have q1 := ch_le (mRows v t n) (sI w)
      have q2 : 2 ^ (mRows v t n) ≤ 2 ^ 30 := Nat.pow_le_pow_right (by omega) (by omega)
      omega
    have e1 : (lN (ch (mRows v t n) (sI w)) - 1).toInt = (ch (mRows v t n) (sI w) : Int) - 1 := by
      rw [Int64.toInt_sub, lN_iI (by omega)]
      have : (1 : Int64).toInt = 1 := rfl
      rw [this]
      exact Int.bmod_eq_of_le (by omega) (by omega)
    rw [e1]
    simp only [Bool.true_and]
    rw [← Bool.decide_and]
    congr 1
    rw [Int64.le_iff_toInt_le, Int64.lt_iff_toInt_lt, lN_iI (by omega)]
    have : (0 : Int64).toInt = 0 := rfl
    rw [this]
    apply propext
    omega
  · rw [Bool.eq_false_iff.mpr h1, Bool.false_and, ← Bool.and_assoc, Bool.eq_false_iff.mpr h1, Bool.false_and]
theorem rel_draw (h : Rel n T x v) (t w : Int32) (num : Int64) : (csDraw x (coX x) (tkX v t n) (sI (v.1 27)) t w num).1 = (spDraw n v t w num).1 ∧ Rel n T (csDraw x (coX x) (tkX v t n) (sI (v.1 27)) t w num).2 (spDraw n v t w num).2 := by
  unfold csDraw spDraw
  rw [okDraw_x h]
  by_cases hok : okDraw n v t w num = true
  · rw [if_pos hok, if_pos hok]
    have hok2 := hok
    unfold okDraw at hok2
    simp only [Bool.and_eq_true_iff, decide_eq_true_iff] at hok2
    obtain ⟨a1, a2, a4, a5⟩ := hok2
    obtain ⟨a, b⟩ := isT_x a1
    have h2 := mRows_le v t n
    have h3 := h.rs.2.2.1
    rw [← inR_N] at a2
    obtain ⟨c, d⟩ := isC_x (by omega) a2
    rw [h.rd.2.2.2.2.2 _ a, rel_rows h a, ← b]
    by_cases h0 : v.2.1 25 (sI t) = 0
    · rw [if_pos h0, if_pos h0]
      obtain ⟨ek, hk⟩ := lN_of a4
      have b1 : ch (mRows v t n) (sI w) < 2 ^ 62 := by
        have q1 := ch_le (mRows v t n) (sI w)
        have q2 : 2 ^ (mRows v t n) ≤ 2 ^ 30 := Nat.pow_le_pow_right (by omega) (by omega)
        omega
      have e1 : (lN (ch (mRows v t n) (sI w)) - 1).toInt = (ch (mRows v t n) (sI w) : Int) - 1 := by
        rw [Int64.toInt_sub, lN_iI (by omega)]
        have : (1 : Int64).toInt = 1 := rfl
        rw [this]
        exact Int.bmod_eq_of_le (by omega) (by omega)
      rw [h.rw _ _ (by omega) (by omega), e1] at a5
      generalize num.toInt.toNat = k0 at ek hk
      rw [ek, lN_iI hk] at a5
      obtain ⟨-, i2, ⟨k, -, i4⟩, i5, -⟩ := rel_drs h a1 h0 (show sI w ≤ mRows v t n by omega) (show k0 < ch (mRows v t n) (sI w) by omega) (mRows v t n) (Nat.le_refl _)
      rw [ek]
      have w0 : (dr v t n (mRows v t n) (sI w) (lN k0) (mRows v t n)).2.1 = 0 := by
        rw [Nat.sub_self] at i4
        rcases Nat.eq_zero_or_pos (dr v t n (mRows v t n) (sI w) (lN k0) (mRows v t n)).2.1 with e | e
        · exact e
        · rw [ch_lt e] at i4; omega
      refine ⟨?_, i5⟩
      show nI (5 * (sI w - _)) = 5 * w
      rw [i2, w0, Nat.sub_zero, ← pk_mul, ← d]; rfl
    · rw [if_neg h0, if_neg h0]; exact ⟨rfl, h⟩
  · rw [if_neg hok, if_neg hok]; exact ⟨rfl, h⟩
end REG
