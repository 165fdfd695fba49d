/-! the reference: five columns, no more than a fifth of all; draws, chances, citizens, courts -/
theorem mColP_l {v : mS} {t w : Int32} {i : Nat} (h : mColP v t w i = true) : v.2.1 17 i = w := by
  simp only [mColP, Bool.and_eq_true, decide_eq_true_eq] at h
  exact h.2.1
theorem one5 (q : Int32) : (if q = 0 then 1 else 0) + (if q = 1 then 1 else 0) + (if q = 2 then 1 else 0) + (if q = 3 then 1 else 0) + (if q = 4 then 1 else 0) ≤ 1 := by
  by_cases h0 : q = 0
  · subst h0; decide
  by_cases h1 : q = 1
  · subst h1; decide
  by_cases h2 : q = 2
  · subst h2; decide
  by_cases h3 : q = 3
  · subst h3; decide
  by_cases h4 : q = 4
  · subst h4; decide
  simp [h0, h1, h2, h3, h4]
theorem mColP_b (v : mS) (t w : Int32) (i : Nat) : (if mColP v t w i then 1 else 0) ≤ (if v.2.1 17 i = w then 1 else 0) := by
  by_cases h : mColP v t w i = true
  · rw [if_pos h, if_pos (mColP_l h)]; exact Nat.le_refl 1
  · rw [if_neg h]; exact Nat.zero_le _
theorem mCols_le (v : mS) (t : Int32) (n : Nat) : cnt (mColP v t 0) n + cnt (mColP v t 1) n + cnt (mColP v t 2) n + cnt (mColP v t 3) n + cnt (mColP v t 4) n ≤ n := by
  induction n with
  | zero => exact Nat.le_refl 0
  | succ n ih =>
    simp only [cnt]
    have h0 := mColP_b v t 0 n
    have h1 := mColP_b v t 1 n
    have h2 := mColP_b v t 2 n
    have h3 := mColP_b v t 3 n
    have h4 := mColP_b v t 4 n
    have h5 := one5 (v.2.1 17 n)
    omega
theorem mMin_c (v : mS) (t : Int32) (n : Nat) : ∀ w j : Nat, j ≤ w → mMin v t n w ≤ cnt (mColP v t (nI j)) n
  | 0, j, h => by rw [show j = 0 by omega]; exact Nat.le_refl _
  | w + 1, j, h => by
    rw [mMin]
    by_cases e : j = w + 1
    · subst e
      split <;> omega
    · have := mMin_c v t n w j (by omega)
      split <;> omega
theorem mRows_le (v : mS) (t : Int32) (n : Nat) : 5 * mRows v t n ≤ n := by
  have h := mCols_le v t n
  have h0 : mRows v t n ≤ cnt (mColP v t 0) n := mMin_c v t n 4 0 (by omega)
  have h1 : mRows v t n ≤ cnt (mColP v t 1) n := mMin_c v t n 4 1 (by omega)
  have h2 : mRows v t n ≤ cnt (mColP v t 2) n := mMin_c v t n 4 2 (by omega)
  have h3 : mRows v t n ≤ cnt (mColP v t 3) n := mMin_c v t n 4 3 (by omega)
  have h4 : mRows v t n ≤ cnt (mColP v t 4) n := mMin_c v t n 4 4 (by omega)
  omega
theorem ix32 (r w : Nat) : (32 : Int32) * nI r + nI w = nI (32 * r + w) := by rw [show (32 : Int32) = nI 32 from rfl, pk_mul, nI_add]
def spDraws (n : Nat) (v : mS) (t w : Int32) : Int64 := if isT t && inR 0 (mRows v t n) w then v.2.2 29 (32 * mRows v t n + sI w) else -2
set_option maxHeartbeats 4000000 in
set_option maxRecDepth 100000 in
/-- draws(t, w) -/
theorem ctX10_draws (l : Launch) (D : va_G) (y : Nat → ClassId) (h : Nat) (a : Nat → Nat) (v : mS) (t w : Int32) (n : Nat) (hn : v.1 15 = nI n) (hn1 : n ≤ 150) : mMl l yX10_draws wsX10_draws ({ frames := 2, cells := 0, slots := 0, locals := 47 }) D y h a v [.ref h, .int t, .int w] (fun r v' => r = spDraws n v t w ∧ v' = v) := by
  refine mMl_of (cc := cX10_draws) (maxL := 3) (ret := (some .long)) rfl rfl (Nat.le_of_ble_eq_true rfl) ?_
  intro p e s m below meth c A ls hat hAe hl
  obtain ⟨hx, hb, hr, hml, hts, hown, hlocks, hK, hP, hD, hA⟩ := hat
  have hin : ∀ w ∈ wsX100, w ∈ wsX10_draws := fun _ h9 => List.mem_cons_of_mem _ (List.mem_append_right _ h9)
  have hl : lv_has ls 3 [(0, .ref h), (1, .int t), (2, .int w)] := hl
  have hS : va_S A s.heap s.heap [] := va_S.rf
  have hrl := mRows_le v t n
  refine lv_iload_n hx hb dX10_draws_0 rfl (lv_at hl 1 rfl) ?_
  refine s_calli (As := [.int t]) (rest := []) ⟨hx, hb, hml, hown, hts⟩ (ctX10_isTribe l t) (cwS 1 hts gX10_draws_X10_isTribe rfl rfl rfl (by decide +kernel) ⟨Nat.le_of_ble_eq_true rfl, Nat.le_of_ble_eq_true rfl⟩) hP hS rfl hl.1 rfl (Nat.le_of_ble_eq_true rfl) dX10_draws_1 ⟨Nat.zero_le _, Nat.zero_le _⟩ (fun H locs hP hS => ?_)
  refine lv_if_eq (tgt := 40) hx hb dX10_draws_4 (by decide) (fun c_4 => ?_) (fun c_4 => ?_)
  · have b4 : isT t = false := (zI_eq _).mp c_4
    refine lv_ldc2 (v := (-2)) hx hb hown (hts (.constantLong RX10 269 (-2)) (by decide +kernel)) dX10_draws_40 ?_
    exact m_retl hx hb hr hlocks hAe hK hP hD hS dX10_draws_43 (⟨by simp [spDraws, b4], rfl⟩)
  · have b4 : isT t = true := (zI_ne _).mp c_4
    refine lv_iload_n hx hb dX10_draws_7 rfl (lv_at hl 2 rfl) ?_
    refine lv_i2l hx hb dX10_draws_8 rfl ?_
    refine lv_lconst (v := 0) hx hb dX10_draws_9 (by decide) ?_
    refine lv_aload_n hx hb dX10_draws_10 rfl (lv_at hl 0 rfl) ?_
    refine lv_iload_n hx hb dX10_draws_11 rfl (lv_at hl 1 rfl) ?_
    refine m_callip (As := [.int t]) (rest := [.long 0, .long ((w : Int32).toInt64)]) ⟨hx, hb, hml, hown, hts⟩ (ctX10_rowsOf l D y h a v t n hn hn1) (cwV 1 hts gX10_draws_X10_rowsOf rfl rfl rfl (by decide +kernel) ⟨Nat.le_of_ble_eq_true rfl, Nat.le_of_ble_eq_true rfl⟩) hK hP hD hS hA rfl hl.1 rfl (Nat.le_of_ble_eq_true rfl) dX10_draws_12 ⟨Nat.zero_le _, Nat.zero_le _⟩ (fun H locs hP hD hS => ?_)
    refine lv_i2l hx hb dX10_draws_15 rfl ?_
    refine s_calli (As := [.long (w.toInt64), .long 0, .long _]) (rest := []) ⟨hx, hb, hml, hown, hts⟩ (ctX10_in l _ _ _) (cwS 3 hts gX10_draws_X10_in rfl rfl rfl (by decide +kernel) ⟨Nat.le_of_ble_eq_true rfl, Nat.le_of_ble_eq_true rfl⟩) hP hS rfl hl.1 rfl (Nat.le_of_ble_eq_true rfl) dX10_draws_16 ⟨Nat.zero_le _, Nat.zero_le _⟩ (fun H locs hP hS => ?_)
    refine lv_if_eq (tgt := 40) hx hb dX10_draws_19 (by decide) (fun c_19 => ?_) (fun c_19 => ?_)
    · rw [mIn_R, Int32.toInt_toInt64, nI_toInt (by omega)] at c_19
      have b19 : inR 0 (mRows v t n) w = false := (zI_eq _).mp c_19
      refine lv_ldc2 (v := (-2)) hx hb hown (hts (.constantLong RX10 269 (-2)) (by decide +kernel)) dX10_draws_40 ?_
      exact m_retl hx hb hr hlocks hAe hK hP hD hS dX10_draws_43 (⟨by simp [spDraws, b4, b19], rfl⟩)
    · rw [mIn_R, Int32.toInt_toInt64, nI_toInt (by omega)] at c_19
      have b19 : inR 0 (mRows v t n) w = true := (zI_ne _).mp c_19
      obtain ⟨ww, hww, etw⟩ := (inR_k (mRows v t n + 1) (hi := mRows v t n) (by omega) (by omega)).mp b19
      have hcw : w.toNatClampNeg = ww := by rw [etw]; exact nI_clamp (by omega)
      refine lv_aload_n hx hb dX10_draws_22 rfl (lv_at hl 0 rfl) ?_
      refine mg_ways hx hb hts hin hown hK hP (by decide +kernel) dX10_draws_23 ?_
      refine lv_bipush (v := 32) hx hb dX10_draws_26 (by decide) ?_
      refine lv_aload_n hx hb dX10_draws_28 rfl (lv_at hl 0 rfl) ?_
      refine lv_iload_n hx hb dX10_draws_29 rfl (lv_at hl 1 rfl) ?_
      refine m_callip (As := [.int t]) (rest := [.int 32, .ref (a 29)]) ⟨hx, hb, hml, hown, hts⟩ (ctX10_rowsOf l D y h a v t n hn hn1) (cwV 1 hts gX10_draws_X10_rowsOf rfl rfl rfl (by decide +kernel) ⟨Nat.le_of_ble_eq_true rfl, Nat.le_of_ble_eq_true rfl⟩) hK hP hD hS hA rfl hl.1 rfl (Nat.le_of_ble_eq_true rfl) dX10_draws_30 ⟨Nat.zero_le _, Nat.zero_le _⟩ (fun H locs hP hD hS => ?_)
      refine lv_imul hx hb dX10_draws_33 ?_
      refine lv_iload_n hx hb dX10_draws_34 rfl (lv_at hl 2 rfl) ?_
      refine lv_iadd hx hb dX10_draws_35 ?_
      have hix : (32 : Int32) * nI (mRows v t n) + w = nI (32 * mRows v t n + ww) := by rw [etw, ix32]
      rw [hix]
      refine ml_ways hx hb hK hP (vp_in_nI (by omega) (by omega)) dX10_draws_36 ?_
      refine lv_goto (tgt := 43) hx hb dX10_draws_37 (by decide) ?_
      exact m_retl hx hb hr hlocks hAe hK hP hD hS dX10_draws_43 (⟨by rw [spDraws, if_pos (by simp [b4, b19]), show sI w = ww from hcw, nI_clamp (by omega)], rfl⟩)
def spChances (n : Nat) (v : mS) (t w : Int32) : Int64 := if isC n t && inR 0 (mRows v (v.2.1 16 (sI t)) n) w then (if v.2.1 22 (sI t) = -1 then -4 else if nI (mRows v (v.2.1 16 (sI t)) n) ≤ v.2.1 22 (sI t) ∨ w = 0 then 0 else v.2.2 29 (32 * (mRows v (v.2.1 16 (sI t)) n - 1) + (sI w - 1))) else -2
set_option maxHeartbeats 4000000 in
set_option maxRecDepth 100000 in
/-- chances(t, w) -/
theorem ctX10_chances (l : Launch) (D : va_G) (y : Nat → ClassId) (h : Nat) (a : Nat → Nat) (v : mS) (t w : Int32) (n : Nat) (hn : v.1 15 = nI n) (hn1 : n ≤ 150) : mMl l yX10_chances wsX10_chances ({ frames := 2, cells := 0, slots := 0, locals := 47 }) D y h a v [.ref h, .int t, .int w] (fun r v' => r = spChances n v t w ∧ v' = v) := by
  refine mMl_of (cc := cX10_chances) (maxL := 4) (ret := (some .long)) rfl rfl (Nat.le_of_ble_eq_true rfl) ?_
  intro p e s m below meth c A ls hat hAe hl
  obtain ⟨hx, hb, hr, hml, hts, hown, hlocks, hK, hP, hD, hA⟩ := hat
  have hin : ∀ w ∈ wsX100, w ∈ wsX10_chances := fun _ h9 => List.mem_cons_of_mem _ (List.mem_append_right _ h9)
  have hl : lv_has ls 4 [(0, .ref h), (1, .int t), (2, .int w)] := hl
  have hS : va_S A s.heap s.heap [] := va_S.rf
  refine lv_aload_n hx hb dX10_chances_0 rfl (lv_at hl 0 rfl) ?_
  refine lv_iload_n hx hb dX10_chances_1 rfl (lv_at hl 1 rfl) ?_
  refine m_callip (As := [.int t]) (rest := []) ⟨hx, hb, hml, hown, hts⟩ (ctX10_isCitizen l D y h a v t n hn hn1) (cwV 1 hts gX10_chances_X10_isCitizen rfl rfl rfl (by decide +kernel) ⟨Nat.le_of_ble_eq_true rfl, Nat.le_of_ble_eq_true rfl⟩) hK hP hD hS hA rfl hl.1 rfl (Nat.le_of_ble_eq_true rfl) dX10_chances_2 ⟨Nat.zero_le _, Nat.zero_le _⟩ (fun H locs hP hD hS => ?_)
  refine lv_topi (fun r2 er2 => ?_)
  refine lv_if_eq (tgt := 28) hx hb dX10_chances_5 (by decide) (fun c_5 => ?_) (fun c_5 => ?_)
  · rw [er2] at c_5
    have b5 : isC n t = false := (zI_eq _).mp c_5
    refine lv_ldc2 (v := (-2)) hx hb hown (hts (.constantLong RX10 269 (-2)) (by decide +kernel)) dX10_chances_28 ?_
    exact m_retl hx hb hr hlocks hAe hK hP hD hS dX10_chances_31 (⟨by simp [spChances, b5], rfl⟩)
  · rw [er2] at c_5
    have b5 : isC n t = true := (zI_ne _).mp c_5
    obtain ⟨cc, hcc, etcc⟩ := (inR_c (n := n) (by omega)).mp b5
    have hccc : t.toNatClampNeg = cc := by rw [etcc]; exact nI_clamp (by omega)
    have hicc : vp_in t 150 := by rw [etcc]; exact vp_in_nI (by omega) (by omega)
    have hrl := mRows_le v (v.2.1 16 (sI t)) n
    refine lv_iload_n hx hb dX10_chances_8 rfl (lv_at hl 2 rfl) ?_
    refine lv_i2l hx hb dX10_chances_9 rfl ?_
    refine lv_lconst (v := 0) hx hb dX10_chances_10 (by decide) ?_
    refine lv_aload_n hx hb dX10_chances_11 rfl (lv_at hl 0 rfl) ?_
    refine lv_aload_n hx hb dX10_chances_12 rfl (lv_at hl 0 rfl) ?_
    refine mg_tribe hx hb hts hin hown hK hP (by decide +kernel) dX10_chances_13 ?_
    refine lv_iload_n hx hb dX10_chances_16 rfl (lv_at hl 1 rfl) ?_
    refine ml_tribe hx hb hK hP (hicc) dX10_chances_17 ?_
    refine m_callip (As := [.int (v.2.1 16 (sI t))]) (rest := [.long 0, .long ((w : Int32).toInt64)]) ⟨hx, hb, hml, hown, hts⟩ (ctX10_rowsOf l D y h a v (v.2.1 16 (sI t)) n hn hn1) (cwV 1 hts gX10_chances_X10_rowsOf rfl rfl rfl (by decide +kernel) ⟨Nat.le_of_ble_eq_true rfl, Nat.le_of_ble_eq_true rfl⟩) hK hP hD hS hA rfl hl.1 rfl (Nat.le_of_ble_eq_true rfl) dX10_chances_18 ⟨Nat.zero_le _, Nat.zero_le _⟩ (fun H locs hP hD hS => ?_)
    refine lv_i2l hx hb dX10_chances_21 rfl ?_
    refine s_calli (As := [.long (w.toInt64), .long 0, .long _]) (rest := []) ⟨hx, hb, hml, hown, hts⟩ (ctX10_in l _ _ _) (cwS 3 hts gX10_chances_X10_in rfl rfl rfl (by decide +kernel) ⟨Nat.le_of_ble_eq_true rfl, Nat.le_of_ble_eq_true rfl⟩) hP hS rfl hl.1 rfl (Nat.le_of_ble_eq_true rfl) dX10_chances_22 ⟨Nat.zero_le _, Nat.zero_le _⟩ (fun H locs hP hS => ?_)
    refine lv_if_ne (tgt := 32) hx hb dX10_chances_25 (by decide) (fun c_25 => ?_) (fun c_25 => ?_)
    · rw [mIn_R, Int32.toInt_toInt64, nI_toInt (by omega)] at c_25
      have b25 : inR 0 (mRows v (v.2.1 16 (sI t)) n) w = true := (zI_ne _).mp c_25
      obtain ⟨ww, hww, etw⟩ := (inR_k (mRows v (v.2.1 16 (sI t)) n + 1) (hi := mRows v (v.2.1 16 (sI t)) n) (by omega) (by omega)).mp b25
      have hcw : w.toNatClampNeg = ww := by rw [etw]; exact nI_clamp (by omega)
      refine lv_aload_n hx hb dX10_chances_32 rfl (lv_at hl 0 rfl) ?_
      refine mg_place hx hb hts hin hown hK hP (by decide +kernel) dX10_chances_33 ?_
      refine lv_iload_n hx hb dX10_chances_36 rfl (lv_at hl 1 rfl) ?_
      refine ml_place hx hb hK hP (hicc) dX10_chances_37 ?_
      refine lv_iconst (v := (-1)) hx hb dX10_chances_38 (by decide) ?_
      refine lv_icmp_ne (tgt := 46) hx hb dX10_chances_39 (by decide) (fun c_39 => ?_) (fun c_39 => ?_)
      · refine lv_aload_n hx hb dX10_chances_46 rfl (lv_at hl 0 rfl) ?_
        refine lv_aload_n hx hb dX10_chances_47 rfl (lv_at hl 0 rfl) ?_
        refine mg_tribe hx hb hts hin hown hK hP (by decide +kernel) dX10_chances_48 ?_
        refine lv_iload_n hx hb dX10_chances_51 rfl (lv_at hl 1 rfl) ?_
        refine ml_tribe hx hb hK hP (hicc) dX10_chances_52 ?_
        refine m_callip (As := [.int (v.2.1 16 (sI t))]) (rest := []) ⟨hx, hb, hml, hown, hts⟩ (ctX10_rowsOf l D y h a v (v.2.1 16 (sI t)) n hn hn1) (cwV 1 hts gX10_chances_X10_rowsOf rfl rfl rfl (by decide +kernel) ⟨Nat.le_of_ble_eq_true rfl, Nat.le_of_ble_eq_true rfl⟩) hK hP hD hS hA rfl hl.1 rfl (Nat.le_of_ble_eq_true rfl) dX10_chances_53 ⟨Nat.zero_le _, Nat.zero_le _⟩ (fun H locs hP hD hS => ?_)
        refine lv_topi (fun x3 ex3 => ?_)
        refine lv_istore_n (lv' := [(3, .int x3), (0, .ref h), (1, .int t), (2, .int w)]) hx hb dX10_chances_56 rfl hl (by decide) rfl (fun ls hl => ?_)
        refine lv_aload_n hx hb dX10_chances_57 rfl (lv_at hl 1 rfl) ?_
        refine mg_place hx hb hts hin hown hK hP (by decide +kernel) dX10_chances_58 ?_
        refine lv_iload_n hx hb dX10_chances_61 rfl (lv_at hl 2 rfl) ?_
        refine ml_place hx hb hK hP (hicc) dX10_chances_62 ?_
        refine lv_iload_n hx hb dX10_chances_63 rfl (lv_at hl 0 rfl) ?_
        refine lv_icmp_ge (tgt := 71) hx hb dX10_chances_64 (by decide) (fun c_64 => ?_) (fun c_64 => ?_)
        · refine lv_lconst (v := 0) hx hb dX10_chances_71 (by decide) ?_
          refine lv_goto (tgt := 90) hx hb dX10_chances_72 (by decide) ?_
          exact m_retl hx hb hr hlocks hAe hK hP hD hS dX10_chances_90 (⟨by rw [ex3] at c_64; rw [spChances, if_pos (by simp [b5, b25]), if_neg c_39, if_pos (Or.inl c_64)], rfl⟩)
        · refine lv_iload_n hx hb dX10_chances_67 rfl (lv_at hl 3 rfl) ?_
          refine lv_if_ne (tgt := 75) hx hb dX10_chances_68 (by decide) (fun c_68 => ?_) (fun c_68 => ?_)
          · have hw0 : 0 < ww := Nat.pos_of_ne_zero (fun q => c_68 (by rw [etw, q]; rfl))
            have hix : (32 : Int32) * (nI (mRows v (v.2.1 16 (sI t)) n) - 1) + w - 1 = nI (32 * (mRows v (v.2.1 16 (sI t)) n - 1) + (ww - 1)) := by rw [etw, show (1 : Int32) = nI 1 from rfl, pk_sub (by omega), ix32, pk_sub (by omega), show 32 * (mRows v (v.2.1 16 (sI t)) n - 1) + ww - 1 = 32 * (mRows v (v.2.1 16 (sI t)) n - 1) + (ww - 1) by omega]
            refine lv_aload_n hx hb dX10_chances_75 rfl (lv_at hl 1 rfl) ?_
            refine mg_ways hx hb hts hin hown hK hP (by decide +kernel) dX10_chances_76 ?_
            refine lv_bipush (v := 32) hx hb dX10_chances_79 (by decide) ?_
            refine lv_iload_n hx hb dX10_chances_81 rfl (lv_at hl 0 rfl) ?_
            refine lv_iconst (v := 1) hx hb dX10_chances_82 (by decide) ?_
            refine lv_isub hx hb dX10_chances_83 ?_
            refine lv_imul hx hb dX10_chances_84 ?_
            refine lv_iload_n hx hb dX10_chances_85 rfl (lv_at hl 3 rfl) ?_
            refine lv_iadd hx hb dX10_chances_86 ?_
            refine lv_iconst (v := 1) hx hb dX10_chances_87 (by decide) ?_
            refine lv_isub hx hb dX10_chances_88 ?_
            rw [ex3, hix]
            refine ml_ways hx hb hK hP (vp_in_nI (by omega) (by omega)) dX10_chances_89 ?_
            exact m_retl hx hb hr hlocks hAe hK hP hD hS dX10_chances_90 (⟨by rw [ex3] at c_64; rw [spChances, if_pos (by simp [b5, b25]), if_neg c_39, if_neg (by simp [c_64, c_68]), show sI w = ww from hcw, nI_clamp (by omega)], rfl⟩)
          · refine lv_lconst (v := 0) hx hb dX10_chances_71 (by decide) ?_
            refine lv_goto (tgt := 90) hx hb dX10_chances_72 (by decide) ?_
            exact m_retl hx hb hr hlocks hAe hK hP hD hS dX10_chances_90 (⟨by rw [spChances, if_pos (by simp [b5, b25]), if_neg c_39, if_pos (Or.inr c_68)], rfl⟩)
      · refine lv_ldc2 (v := (-4)) hx hb hown (hts (.constantLong RX10 274 (-4)) (by decide +kernel)) dX10_chances_42 ?_
        exact m_retl hx hb hr hlocks hAe hK hP hD hS dX10_chances_45 (⟨by simp [spChances, b5, b25, c_39], rfl⟩)
    · rw [mIn_R, Int32.toInt_toInt64, nI_toInt (by omega)] at c_25
      have b25 : inR 0 (mRows v (v.2.1 16 (sI t)) n) w = false := (zI_eq _).mp c_25
      refine lv_ldc2 (v := (-2)) hx hb hown (hts (.constantLong RX10 269 (-2)) (by decide +kernel)) dX10_chances_28 ?_
      exact m_retl hx hb hr hlocks hAe hK hP hD hS dX10_chances_31 (⟨by simp [spChances, b5, b25], rfl⟩)
def spChosen (cm : Nat) (v : mS) (i : Int32) : Int32 := if isC cm i then v.2.1 26 (sI i) else -1
set_option maxHeartbeats 4000000 in
set_option maxRecDepth 100000 in
/-- chosen(i) -/
theorem ctX10_chosen (l : Launch) (D : va_G) (y : Nat → ClassId) (h : Nat) (a : Nat → Nat) (v : mS) (i : Int32) (cm : Nat) (hcm : v.1 27 = nI cm) (hcm1 : cm ≤ 150) : mMi l yX10_chosen wsX10_chosen ({ frames := 1, cells := 0, slots := 0, locals := 25 }) D y h a v [.ref h, .int i] (fun r v' => r = spChosen cm v i ∧ v' = v) := by
  refine mMi_of (cc := cX10_chosen) (maxL := 2) (ret := (some .int)) rfl rfl (Nat.le_of_ble_eq_true rfl) ?_
  intro p e s m below meth c A ls hat hAe hl
  obtain ⟨hx, hb, hr, hml, hts, hown, hlocks, hK, hP, hD, hA⟩ := hat
  have hin : ∀ w ∈ wsX100, w ∈ wsX10_chosen := fun _ h9 => List.mem_cons_of_mem _ (List.mem_append_right _ h9)
  have hl : lv_has ls 2 [(0, .ref h), (1, .int i)] := hl
  have hS : va_S A s.heap s.heap [] := va_S.rf
  refine lv_iload_n hx hb dX10_chosen_0 rfl (lv_at hl 1 rfl) ?_
  refine lv_i2l hx hb dX10_chosen_1 rfl ?_
  refine lv_lconst (v := 0) hx hb dX10_chosen_2 (by decide) ?_
  refine lv_aload_n hx hb dX10_chosen_3 rfl (lv_at hl 0 rfl) ?_
  refine mg_chosenMany hx hb hts hin hown hK hP (by decide +kernel) dX10_chosen_4 ?_
  refine lv_iconst (v := 1) hx hb dX10_chosen_7 (by decide) ?_
  refine lv_isub hx hb dX10_chosen_8 ?_
  refine lv_i2l hx hb dX10_chosen_9 rfl ?_
  refine s_calli (As := [.long (i.toInt64), .long 0, .long _]) (rest := []) ⟨hx, hb, hml, hown, hts⟩ (ctX10_in l _ _ _) (cwS 3 hts gX10_chosen_X10_in rfl rfl rfl (by decide +kernel) ⟨Nat.le_of_ble_eq_true rfl, Nat.le_of_ble_eq_true rfl⟩) hP hS rfl hl.1 rfl (Nat.le_of_ble_eq_true rfl) dX10_chosen_10 ⟨Nat.zero_le _, Nat.zero_le _⟩ (fun H locs hP hS => ?_)
  refine lv_if_eq (tgt := 25) hx hb dX10_chosen_13 (by decide) (fun c_13 => ?_) (fun c_13 => ?_)
  · rw [hcm, isC_in (by omega)] at c_13
    have b13 : isC cm i = false := (zI_eq _).mp c_13
    refine lv_iconst (v := (-1)) hx hb dX10_chosen_25 (by decide) ?_
    exact m_reti hx hb hr hlocks hAe hK hP hD hS rfl dX10_chosen_26 (⟨by simp [spChosen, b13, sI], rfl⟩)
  · rw [hcm, isC_in (by omega)] at c_13
    have b13 : isC cm i = true := (zI_ne _).mp c_13
    obtain ⟨cc, hcc, et⟩ := (inR_c (n := cm) (by omega)).mp b13
    refine lv_aload_n hx hb dX10_chosen_16 rfl (lv_at hl 0 rfl) ?_
    refine mg_chosen hx hb hts hin hown hK hP (by decide +kernel) dX10_chosen_17 ?_
    refine lv_iload_n hx hb dX10_chosen_20 rfl (lv_at hl 1 rfl) ?_
    refine ml_chosen hx hb hK hP (by rw [et]; exact vp_in_nI (by omega) (by omega)) dX10_chosen_21 ?_
    refine lv_goto (tgt := 26) hx hb dX10_chosen_22 (by decide) ?_
    exact m_reti hx hb hr hlocks hAe hK hP hD hS rfl dX10_chosen_26 (⟨by simp [spChosen, b13, sI], rfl⟩)
def spOpen (v : mS) (k q : Int32) : Int32 × mS := if isK k && (inR 1 25 q && !decide (q - q / 2 * 2 = 0)) then (if 0 < v.2.1 31 (sI k) then (-4, v) else (q, mrU v 31 (sI k) q)) else (-2, v)
set_option maxHeartbeats 4000000 in
set_option maxRecDepth 100000 in
/-- open(k, q) -/
theorem ctX10_open (l : Launch) (D : va_G) (y : Nat → ClassId) (h : Nat) (a : Nat → Nat) (v : mS) (k q : Int32) : mMi l yX10_open wsX10_open ({ frames := 2, cells := 0, slots := 0, locals := 45 }) D y h a v [.ref h, .int k, .int q] (fun r v' => (r, v') = spOpen v k q) := by
  refine mMi_of (cc := cX10_open) (maxL := 3) (ret := (some .int)) rfl rfl (Nat.le_of_ble_eq_true rfl) ?_
  intro p e s m below meth c A ls hat hAe hl
  obtain ⟨hx, hb, hr, hml, hts, hown, hlocks, hK, hP, hD, hA⟩ := hat
  have hin : ∀ w ∈ wsX100, w ∈ wsX10_open := fun _ h9 => List.mem_cons_of_mem _ (List.mem_append_right _ h9)
  have hl : lv_has ls 3 [(0, .ref h), (1, .int k), (2, .int q)] := hl
  have hS : va_S A s.heap s.heap [] := va_S.rf
  refine lv_iload_n hx hb dX10_open_0 rfl (lv_at hl 1 rfl) ?_
  refine s_calli (As := [.int k]) (rest := []) ⟨hx, hb, hml, hown, hts⟩ (ctX10_isCourt l k) (cwS 1 hts gX10_open_X10_isCourt rfl rfl rfl (by decide +kernel) ⟨Nat.le_of_ble_eq_true rfl, Nat.le_of_ble_eq_true rfl⟩) hP hS rfl hl.1 rfl (Nat.le_of_ble_eq_true rfl) dX10_open_1 ⟨Nat.zero_le _, Nat.zero_le _⟩ (fun H locs hP hS => ?_)
  refine lv_if_eq (tgt := 25) hx hb dX10_open_4 (by decide) (fun c_4 => ?_) (fun c_4 => ?_)
  · have b4 : isK k = false := (zI_eq _).mp c_4
    refine lv_bipush (v := (-2)) hx hb dX10_open_25 (by decide) ?_
    exact m_reti hx hb hr hlocks hAe hK hP hD hS rfl dX10_open_27 (by simp [spOpen, b4])
  · have b4 : isK k = true := (zI_ne _).mp c_4
    obtain ⟨kk, hk5, etk⟩ := (inR_k 5 (hi := 4) rfl (by omega)).mp b4
    have hck : k.toNatClampNeg = kk := by rw [etk]; exact nI_clamp (by omega)
    have hik : vp_in k 5 := by rw [etk]; exact vp_in_nI hk5 (by omega)
    refine lv_iload_n hx hb dX10_open_7 rfl (lv_at hl 2 rfl) ?_
    refine lv_i2l hx hb dX10_open_8 rfl ?_
    refine lv_lconst (v := 1) hx hb dX10_open_9 (by decide) ?_
    refine lv_ldc2 (v := 25) hx hb hown (hts (.constantLong RX10 221 (25)) (by decide +kernel)) dX10_open_10 ?_
    refine s_calli (As := [.long (q.toInt64), .long 1, .long 25]) (rest := []) ⟨hx, hb, hml, hown, hts⟩ (ctX10_in l _ _ _) (cwS 3 hts gX10_open_X10_in rfl rfl rfl (by decide +kernel) ⟨Nat.le_of_ble_eq_true rfl, Nat.le_of_ble_eq_true rfl⟩) hP hS rfl hl.1 rfl (Nat.le_of_ble_eq_true rfl) dX10_open_13 ⟨Nat.zero_le _, Nat.zero_le _⟩ (fun H locs hP hS => ?_)
    refine lv_if_eq (tgt := 25) hx hb dX10_open_16 (by decide) (fun c_16 => ?_) (fun c_16 => ?_)
    · rw [mIn_R] at c_16
      have b16 : inR 1 25 q = false := (zI_eq _).mp c_16
      refine lv_bipush (v := (-2)) hx hb dX10_open_25 (by decide) ?_
      exact m_reti hx hb hr hlocks hAe hK hP hD hS rfl dX10_open_27 (by simp [spOpen, b4, b16])
    · rw [mIn_R] at c_16
      have b16 : inR 1 25 q = true := (zI_ne _).mp c_16
      refine lv_iload_n hx hb dX10_open_19 rfl (lv_at hl 2 rfl) ?_
      refine lv_iconst (v := 2) hx hb dX10_open_20 (by decide) ?_
      refine lv_irem hx hb dX10_open_21 (by decide) ?_
      refine lv_if_ne (tgt := 28) hx hb dX10_open_22 (by decide) (fun c_22 => ?_) (fun c_22 => ?_)
      · refine lv_aload_n hx hb dX10_open_28 rfl (lv_at hl 0 rfl) ?_
        refine mg_courtSize hx hb hts hin hown hK hP (by decide +kernel) dX10_open_29 ?_
        refine lv_iload_n hx hb dX10_open_32 rfl (lv_at hl 1 rfl) ?_
        refine ml_courtSize hx hb hK hP (hik) dX10_open_33 ?_
        refine lv_if_le (tgt := 40) hx hb dX10_open_34 (by decide) (fun c_34 => ?_) (fun c_34 => ?_)
        · refine lv_aload_n hx hb dX10_open_40 rfl (lv_at hl 0 rfl) ?_
          refine mg_courtSize hx hb hts hin hown hK hP (by decide +kernel) dX10_open_41 ?_
          refine lv_iload_n hx hb dX10_open_44 rfl (lv_at hl 1 rfl) ?_
          refine lv_iload_n hx hb dX10_open_45 rfl (lv_at hl 2 rfl) ?_
          refine ms_courtSize hx hb hK hP hD hS (hik) dX10_open_46 (fun H locs hP hD hS => ?_)
          refine lv_iload_n hx hb dX10_open_47 rfl (lv_at hl 2 rfl) ?_
          exact m_reti hx hb hr hlocks hAe hK hP hD hS rfl dX10_open_48 (by simp [spOpen, b4, b16, c_22, sI, c_34, Int32.not_lt.mpr c_34])
        · refine lv_bipush (v := (-4)) hx hb dX10_open_37 (by decide) ?_
          exact m_reti hx hb hr hlocks hAe hK hP hD hS rfl dX10_open_39 (by simp [spOpen, b4, b16, c_22, sI, c_34, Int32.not_le.mp c_34])
      · refine lv_bipush (v := (-2)) hx hb dX10_open_25 (by decide) ?_
        exact m_reti hx hb hr hlocks hAe hK hP hD hS rfl dX10_open_27 (by simp [spOpen, b4, b16, c_22])
def spSeat (ns : Nat → Nat) (v : mS) (k i : Int32) : Int32 := if isK k && isC (ns (sI k)) i then v.2.1 33 (25 * sI k + sI i) else -1
set_option maxHeartbeats 4000000 in
set_option maxRecDepth 100000 in
/-- seat(k, i) -/
theorem ctX10_seat (l : Launch) (D : va_G) (y : Nat → ClassId) (h : Nat) (a : Nat → Nat) (v : mS) (k i : Int32) (ns : Nat → Nat) (hns : ∀ k, k < 5 → v.2.1 32 k = nI (ns k) ∧ ns k ≤ 25) : mMi l yX10_seat wsX10_seat ({ frames := 2, cells := 0, slots := 0, locals := 45 }) D y h a v [.ref h, .int k, .int i] (fun r v' => r = spSeat ns v k i ∧ v' = v) := by
  refine mMi_of (cc := cX10_seat) (maxL := 3) (ret := (some .int)) rfl rfl (Nat.le_of_ble_eq_true rfl) ?_
  intro p e s m below meth c A ls hat hAe hl
  obtain ⟨hx, hb, hr, hml, hts, hown, hlocks, hK, hP, hD, hA⟩ := hat
  have hin : ∀ w ∈ wsX100, w ∈ wsX10_seat := fun _ h9 => List.mem_cons_of_mem _ (List.mem_append_right _ h9)
  have hl : lv_has ls 3 [(0, .ref h), (1, .int k), (2, .int i)] := hl
  have hS : va_S A s.heap s.heap [] := va_S.rf
  refine lv_iload_n hx hb dX10_seat_0 rfl (lv_at hl 1 rfl) ?_
  refine s_calli (As := [.int k]) (rest := []) ⟨hx, hb, hml, hown, hts⟩ (ctX10_isCourt l k) (cwS 1 hts gX10_seat_X10_isCourt rfl rfl rfl (by decide +kernel) ⟨Nat.le_of_ble_eq_true rfl, Nat.le_of_ble_eq_true rfl⟩) hP hS rfl hl.1 rfl (Nat.le_of_ble_eq_true rfl) dX10_seat_1 ⟨Nat.zero_le _, Nat.zero_le _⟩ (fun H locs hP hS => ?_)
  refine lv_if_eq (tgt := 39) hx hb dX10_seat_4 (by decide) (fun c_4 => ?_) (fun c_4 => ?_)
  · have b4 : isK k = false := (zI_eq _).mp c_4
    refine lv_iconst (v := (-1)) hx hb dX10_seat_39 (by decide) ?_
    exact m_reti hx hb hr hlocks hAe hK hP hD hS rfl dX10_seat_40 (⟨by simp [spSeat, b4], rfl⟩)
  · have b4 : isK k = true := (zI_ne _).mp c_4
    obtain ⟨kk, hk5, etk⟩ := (inR_k 5 (hi := 4) rfl (by omega)).mp b4
    have hck : k.toNatClampNeg = kk := by rw [etk]; exact nI_clamp (by omega)
    have hik : vp_in k 5 := by rw [etk]; exact vp_in_nI hk5 (by omega)
    have hn25 := (hns kk hk5).2
    refine lv_iload_n hx hb dX10_seat_7 rfl (lv_at hl 2 rfl) ?_
    refine lv_i2l hx hb dX10_seat_8 rfl ?_
    refine lv_lconst (v := 0) hx hb dX10_seat_9 (by decide) ?_
    refine lv_aload_n hx hb dX10_seat_10 rfl (lv_at hl 0 rfl) ?_
    refine mg_sits hx hb hts hin hown hK hP (by decide +kernel) dX10_seat_11 ?_
    refine lv_iload_n hx hb dX10_seat_14 rfl (lv_at hl 1 rfl) ?_
    refine ml_sits hx hb hK hP (hik) dX10_seat_15 ?_
    refine lv_iconst (v := 1) hx hb dX10_seat_16 (by decide) ?_
    refine lv_isub hx hb dX10_seat_17 ?_
    refine lv_i2l hx hb dX10_seat_18 rfl ?_
    refine s_calli (As := [.long (i.toInt64), .long 0, .long _]) (rest := []) ⟨hx, hb, hml, hown, hts⟩ (ctX10_in l _ _ _) (cwS 3 hts gX10_seat_X10_in rfl rfl rfl (by decide +kernel) ⟨Nat.le_of_ble_eq_true rfl, Nat.le_of_ble_eq_true rfl⟩) hP hS rfl hl.1 rfl (Nat.le_of_ble_eq_true rfl) dX10_seat_19 ⟨Nat.zero_le _, Nat.zero_le _⟩ (fun H locs hP hS => ?_)
    refine lv_if_eq (tgt := 39) hx hb dX10_seat_22 (by decide) (fun c_22 => ?_) (fun c_22 => ?_)
    · rw [hck, (hns kk hk5).1, isC_in (by omega)] at c_22
      have b22 : isC (ns kk) i = false := (zI_eq _).mp c_22
      refine lv_iconst (v := (-1)) hx hb dX10_seat_39 (by decide) ?_
      exact m_reti hx hb hr hlocks hAe hK hP hD hS rfl dX10_seat_40 (⟨by simp [spSeat, b4, show sI k = kk from hck, b22], rfl⟩)
    · rw [hck, (hns kk hk5).1, isC_in (by omega)] at c_22
      have b22 : isC (ns kk) i = true := (zI_ne _).mp c_22
      obtain ⟨ii, hii, eti⟩ := (inR_c (n := ns kk) (by omega)).mp b22
      have hci : i.toNatClampNeg = ii := by rw [eti]; exact nI_clamp (by omega)
      refine lv_aload_n hx hb dX10_seat_25 rfl (lv_at hl 0 rfl) ?_
      refine mg_seats hx hb hts hin hown hK hP (by decide +kernel) dX10_seat_26 ?_
      refine lv_bipush (v := 25) hx hb dX10_seat_29 (by decide) ?_
      refine lv_iload_n hx hb dX10_seat_31 rfl (lv_at hl 1 rfl) ?_
      refine lv_imul hx hb dX10_seat_32 ?_
      refine lv_iload_n hx hb dX10_seat_33 rfl (lv_at hl 2 rfl) ?_
      refine lv_iadd hx hb dX10_seat_34 ?_
      have hix : (25 : Int32) * k + i = 25 * nI kk + nI ii := by rw [etk, eti]
      rw [hix]
      refine ml_seats hx hb hK hP (ix25i hk5 (by omega)) dX10_seat_35 ?_
      refine lv_goto (tgt := 40) hx hb dX10_seat_36 (by decide) ?_
      exact m_reti hx hb hr hlocks hAe hK hP hD hS rfl dX10_seat_40 (⟨by rw [ix25c hk5 (by omega)]; simp [spSeat, b4, show sI k = kk from hck, b22, show sI i = ii from hci], rfl⟩)
