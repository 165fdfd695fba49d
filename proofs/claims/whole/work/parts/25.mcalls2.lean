/-! the reference: the calls on citizens -/
theorem tI (x : Int32) (k : Int) (j : Int32) (hj : j.toInt = k) (h : ¬ x = j) : x.toInt ≠ k := fun q => h (Int32.toInt_inj.mp (q.trans hj.symm))
def nC (v : mS) : Nat := (v.1 15).toNatClampNeg
def isC (n : Nat) (t : Int32) : Bool := inR 0 ((n : Int) - 1) t
theorem isC_t {n : Nat} {t : Int32} (hn : n ≤ 150) (h : ¬ zI (isC n t) = 0) : ∃ c, c < n ∧ t = nI c := (inR_c (by omega)).mp ((zI_ne _).mp h)
set_option maxHeartbeats 4000000 in
set_option maxRecDepth 100000 in
/-- end(t) -/
theorem ctX10_end (l : Launch) (D : va_G) (y : Nat → ClassId) (h : Nat) (a : Nat → Nat) (v : mS) (t : Int32) : mMi l yX10_end wsX10_end ({ frames := 0, cells := 0, slots := 0, locals := 0 }) D y h a v [.ref h, .int t] (fun r v' => (r, v') = (if 0 ≤ t ∧ t ≤ v.1 1 then (t, miU v 1 t) else (-1, v))) := by
  refine mMi_of (cc := cX10_end) (maxL := 2) (ret := (some .int)) rfl rfl (Nat.le_of_ble_eq_true rfl) ?_
  intro p e s m below meth c A ls hat hAe hl
  obtain ⟨hx, hb, hr, hml, hts, hown, hlocks, hK, hP, hD, hA⟩ := hat
  have hin : ∀ w ∈ wsX100, w ∈ wsX10_end := fun _ h9 => List.mem_cons_of_mem _ (List.mem_append_right _ h9)
  have hl : lv_has ls 2 [(0, .ref h), (1, .int t)] := hl
  have hS : va_S A s.heap s.heap [] := va_S.rf
  refine lv_iload_n hx hb dX10_end_0 rfl (lv_at hl 1 rfl) ?_
  refine lv_if_lt (tgt := 12) hx hb dX10_end_1 (by decide) (fun c_1 => ?_) (fun c_1 => ?_)
  · refine lv_iconst (v := (-1)) hx hb dX10_end_12 (by decide) ?_
    exact m_reti hx hb hr hlocks hAe hK hP hD hS rfl dX10_end_13 (by rw [if_neg (fun q => absurd c_1 (Int32.not_lt.mpr q.1))])
  · refine lv_iload_n hx hb dX10_end_4 rfl (lv_at hl 1 rfl) ?_
    refine lv_aload_n hx hb dX10_end_5 rfl (lv_at hl 0 rfl) ?_
    refine mg_taped hx hb hts hin hown hK hP (by decide +kernel) dX10_end_6 ?_
    refine lv_icmp_le (tgt := 14) hx hb dX10_end_9 (by decide) (fun c_9 => ?_) (fun c_9 => ?_)
    · refine lv_aload_n hx hb dX10_end_14 rfl (lv_at hl 0 rfl) ?_
      refine lv_iload_n hx hb dX10_end_15 rfl (lv_at hl 1 rfl) ?_
      refine mp_taped hx hb hts hin hown hK hP hD hS (by decide +kernel) dX10_end_16 (fun H locs hP hD hS => ?_)
      refine lv_iload_n hx hb dX10_end_19 rfl (lv_at hl 1 rfl) ?_
      exact m_reti hx hb hr hlocks hAe hK hP hD hS rfl dX10_end_20 (by rw [if_pos ⟨Int32.not_lt.mp c_1, c_9⟩])
    · refine lv_iconst (v := (-1)) hx hb dX10_end_12 (by decide) ?_
      exact m_reti hx hb hr hlocks hAe hK hP hD hS rfl dX10_end_13 (by rw [if_neg (fun q => c_9 q.2)])
set_option maxHeartbeats 4000000 in
set_option maxRecDepth 100000 in
/-- fault(t) -/
theorem ctX10_fault (l : Launch) (D : va_G) (y : Nat → ClassId) (h : Nat) (a : Nat → Nat) (v : mS) (t : Int32) : mMi l yX10_fault wsX10_fault ({ frames := 0, cells := 0, slots := 0, locals := 0 }) D y h a v [.ref h, .int t] (fun r v' => r = (if t = 0 then v.1 8 else if t = 1 then v.1 9 else -1) ∧ v' = v) := by
  refine mMi_of (cc := cX10_fault) (maxL := 2) (ret := (some .int)) rfl rfl (Nat.le_of_ble_eq_true rfl) ?_
  intro p e s m below meth c A ls hat hAe hl
  obtain ⟨hx, hb, hr, hml, hts, hown, hlocks, hK, hP, hD, hA⟩ := hat
  have hin : ∀ w ∈ wsX100, w ∈ wsX10_fault := fun _ h9 => List.mem_cons_of_mem _ (List.mem_append_right _ h9)
  have hl : lv_has ls 2 [(0, .ref h), (1, .int t)] := hl
  have hS : va_S A s.heap s.heap [] := va_S.rf
  refine lv_iload_n hx hb dX10_fault_0 rfl (lv_at hl 1 rfl) ?_
  refine lv_if_ne (tgt := 11) hx hb dX10_fault_1 (by decide) (fun c_1 => ?_) (fun c_1 => ?_)
  · refine lv_iload_n hx hb dX10_fault_11 rfl (lv_at hl 1 rfl) ?_
    refine lv_iconst (v := 1) hx hb dX10_fault_12 (by decide) ?_
    refine lv_icmp_ne (tgt := 23) hx hb dX10_fault_13 (by decide) (fun c_13 => ?_) (fun c_13 => ?_)
    · refine lv_iconst (v := (-1)) hx hb dX10_fault_23 (by decide) ?_
      exact m_reti hx hb hr hlocks hAe hK hP hD hS rfl dX10_fault_24 (⟨by simp [c_1, c_13], rfl⟩)
    · refine lv_aload_n hx hb dX10_fault_16 rfl (lv_at hl 0 rfl) ?_
      refine mg_faultPlace hx hb hts hin hown hK hP (by decide +kernel) dX10_fault_17 ?_
      refine lv_goto (tgt := 24) hx hb dX10_fault_20 (by decide) ?_
      exact m_reti hx hb hr hlocks hAe hK hP hD hS rfl dX10_fault_24 (⟨by simp [c_1, c_13], rfl⟩)
  · refine lv_aload_n hx hb dX10_fault_4 rfl (lv_at hl 0 rfl) ?_
    refine mg_faultKind hx hb hts hin hown hK hP (by decide +kernel) dX10_fault_5 ?_
    refine lv_goto (tgt := 24) hx hb dX10_fault_8 (by decide) ?_
    exact m_reti hx hb hr hlocks hAe hK hP hD hS rfl dX10_fault_24 (⟨by simp [c_1], rfl⟩)
set_option maxHeartbeats 4000000 in
set_option maxRecDepth 100000 in
/-- swear(t) -/
theorem ctX10_swear (l : Launch) (D : va_G) (y : Nat → ClassId) (h : Nat) (a : Nat → Nat) (v : mS) (t : Int32) (n : Nat) (hn : v.1 15 = nI n) (hn1 : n ≤ 150) : mMi l yX10_swear wsX10_swear ({ frames := 2, cells := 0, slots := 0, locals := 46 }) D y h a v [.ref h, .int t] (fun r v' => (isC n t = false ∧ r = -2 ∧ v' = v) ∨ (∃ c, c < n ∧ t = nI c ∧ r = (if v.2.1 19 c = 0 then 1 else 0) ∧ v' = mrU v 19 c 1)) := by
  refine mMi_of (cc := cX10_swear) (maxL := 3) (ret := (some .int)) rfl rfl (Nat.le_of_ble_eq_true rfl) ?_
  intro p e s m below meth c A ls hat hAe hl
  obtain ⟨hx, hb, hr, hml, hts, hown, hlocks, hK, hP, hD, hA⟩ := hat
  have hin : ∀ w ∈ wsX100, w ∈ wsX10_swear := fun _ h9 => List.mem_cons_of_mem _ (List.mem_append_right _ h9)
  have hl : lv_has ls 3 [(0, .ref h), (1, .int t)] := hl
  have hS : va_S A s.heap s.heap [] := va_S.rf
  refine lv_aload_n hx hb dX10_swear_0 rfl (lv_at hl 0 rfl) ?_
  refine lv_iload_n hx hb dX10_swear_1 rfl (lv_at hl 1 rfl) ?_
  refine m_callip (As := [.int t]) (rest := []) ⟨hx, hb, hml, hown, hts⟩ (ctX10_isCitizen l D y h a v t n hn hn1) (cwV 1 hts gX10_swear_X10_isCitizen rfl rfl rfl (by decide +kernel) ⟨Nat.le_of_ble_eq_true rfl, Nat.le_of_ble_eq_true rfl⟩) hK hP hD hS hA rfl hl.1 rfl (Nat.le_of_ble_eq_true rfl) dX10_swear_2 ⟨Nat.zero_le _, Nat.zero_le _⟩ (fun H locs hP hD hS => ?_)
  refine lv_topi (fun r2 er2 => ?_)
  refine lv_if_ne (tgt := 11) hx hb dX10_swear_5 (by decide) (fun c_5 => ?_) (fun c_5 => ?_)
  · rw [er2] at c_5
    obtain ⟨cc, hcc, rfl⟩ := isC_t hn1 c_5
    have hc : (nI cc).toNatClampNeg = cc := nI_clamp (by omega)
    have hi : vp_in (nI cc) 150 := vp_in_nI (by omega) (by omega)
    refine lv_aload_n hx hb dX10_swear_11 rfl (lv_at hl 0 rfl) ?_
    refine mg_sworn hx hb hts hin hown hK hP (by decide +kernel) dX10_swear_12 ?_
    refine lv_iload_n hx hb dX10_swear_15 rfl (lv_at hl 1 rfl) ?_
    refine ml_sworn hx hb hK hP (hi) dX10_swear_16 ?_
    refine lv_istore_n (lv' := [(2, .int _), (0, .ref h), (1, .int t)]) hx hb dX10_swear_17 rfl hl (by decide) rfl (fun ls hl => ?_)
    refine lv_aload_n hx hb dX10_swear_18 rfl (lv_at hl 1 rfl) ?_
    refine mg_sworn hx hb hts hin hown hK hP (by decide +kernel) dX10_swear_19 ?_
    refine lv_iload_n hx hb dX10_swear_22 rfl (lv_at hl 2 rfl) ?_
    refine lv_iconst (v := 1) hx hb dX10_swear_23 (by decide) ?_
    refine ms_sworn hx hb hK hP hD hS (hi) dX10_swear_24 (fun H locs hP hD hS => ?_)
    refine lv_iload_n hx hb dX10_swear_25 rfl (lv_at hl 0 rfl) ?_
    refine lv_if_eq (tgt := 33) hx hb dX10_swear_26 (by decide) (fun c_26 => ?_) (fun c_26 => ?_)
    · refine lv_iconst (v := 1) hx hb dX10_swear_33 (by decide) ?_
      exact m_reti hx hb hr hlocks hAe hK hP hD hS rfl dX10_swear_34 (Or.inr ⟨cc, hcc, rfl, by rw [ex2, hc] at c_26; simp [c_26], by rw [hc, nar1]⟩)
    · refine lv_iconst (v := 0) hx hb dX10_swear_29 (by decide) ?_
      refine lv_goto (tgt := 34) hx hb dX10_swear_30 (by decide) ?_
      exact m_reti hx hb hr hlocks hAe hK hP hD hS rfl dX10_swear_34 (Or.inr ⟨cc, hcc, rfl, by rw [ex2, hc] at c_26; simp [c_26], by rw [hc, nar1]⟩)
  · rw [er2] at c_5
    have hno := (zI_eq _).mp c_5
    refine lv_bipush (v := (-2)) hx hb dX10_swear_8 (by decide) ?_
    exact m_reti hx hb hr hlocks hAe hK hP hD hS rfl dX10_swear_10 (Or.inl ⟨hno, rfl, rfl⟩)
set_option maxHeartbeats 4000000 in
set_option maxRecDepth 100000 in
/-- pay(t, q) -/
theorem ctX10_pay (l : Launch) (D : va_G) (y : Nat → ClassId) (h : Nat) (a : Nat → Nat) (v : mS) (t q : Int32) (n : Nat) (hn : v.1 15 = nI n) (hn1 : n ≤ 150) : mMi l yX10_pay wsX10_pay ({ frames := 2, cells := 0, slots := 0, locals := 46 }) D y h a v [.ref h, .int t, .int q] (fun r v' => (r = -2 ∧ v' = v ∧ ∀ c, c < n → t = nI c → inR 1 (v.2.1 20 c).toInt q = false) ∨ (∃ c, c < n ∧ t = nI c ∧ inR 1 (v.2.1 20 c).toInt q = true ∧ r = v.2.1 20 c - q ∧ v' = mrU v 20 c (v.2.1 20 c - q))) := by
  refine mMi_of (cc := cX10_pay) (maxL := 3) (ret := (some .int)) rfl rfl (Nat.le_of_ble_eq_true rfl) ?_
  intro p e s m below meth c A ls hat hAe hl
  obtain ⟨hx, hb, hr, hml, hts, hown, hlocks, hK, hP, hD, hA⟩ := hat
  have hin : ∀ w ∈ wsX100, w ∈ wsX10_pay := fun _ h9 => List.mem_cons_of_mem _ (List.mem_append_right _ h9)
  have hl : lv_has ls 3 [(0, .ref h), (1, .int t), (2, .int q)] := hl
  have hS : va_S A s.heap s.heap [] := va_S.rf
  refine lv_aload_n hx hb dX10_pay_0 rfl (lv_at hl 0 rfl) ?_
  refine lv_iload_n hx hb dX10_pay_1 rfl (lv_at hl 1 rfl) ?_
  refine m_callip (As := [.int t]) (rest := []) ⟨hx, hb, hml, hown, hts⟩ (ctX10_isCitizen l D y h a v t n hn hn1) (cwV 1 hts gX10_pay_X10_isCitizen rfl rfl rfl (by decide +kernel) ⟨Nat.le_of_ble_eq_true rfl, Nat.le_of_ble_eq_true rfl⟩) hK hP hD hS hA rfl hl.1 rfl (Nat.le_of_ble_eq_true rfl) dX10_pay_2 ⟨Nat.zero_le _, Nat.zero_le _⟩ (fun H locs hP hD hS => ?_)
  refine lv_topi (fun r2 er2 => ?_)
  refine lv_if_eq (tgt := 24) hx hb dX10_pay_5 (by decide) (fun c_5 => ?_) (fun c_5 => ?_)
  · rw [er2] at c_5
    have hno := (zI_eq _).mp c_5
    refine lv_bipush (v := (-2)) hx hb dX10_pay_24 (by decide) ?_
    exact m_reti hx hb hr hlocks hAe hK hP hD hS rfl dX10_pay_26 (Or.inl ⟨rfl, rfl, fun c hc9 e9 => absurd e9 ((inR_f (by omega)).mp hno c hc9)⟩)
  · rw [er2] at c_5
    obtain ⟨cc, hcc, rfl⟩ := isC_t hn1 c_5
    have hc : (nI cc).toNatClampNeg = cc := nI_clamp (by omega)
    have hi : vp_in (nI cc) 150 := vp_in_nI (by omega) (by omega)
    refine lv_iload_n hx hb dX10_pay_8 rfl (lv_at hl 2 rfl) ?_
    refine lv_i2l hx hb dX10_pay_9 rfl ?_
    refine lv_lconst (v := 1) hx hb dX10_pay_10 (by decide) ?_
    refine lv_aload_n hx hb dX10_pay_11 rfl (lv_at hl 0 rfl) ?_
    refine mg_owes hx hb hts hin hown hK hP (by decide +kernel) dX10_pay_12 ?_
    refine lv_iload_n hx hb dX10_pay_15 rfl (lv_at hl 1 rfl) ?_
    refine ml_owes hx hb hK hP (hi) dX10_pay_16 ?_
    refine lv_i2l hx hb dX10_pay_17 rfl ?_
    refine s_calli (As := [.long q.toInt64, .long 1, .long _]) (rest := []) ⟨hx, hb, hml, hown, hts⟩ (ctX10_in l _ _ _) (cwS 3 hts gX10_pay_X10_in rfl rfl rfl (by decide +kernel) ⟨Nat.le_of_ble_eq_true rfl, Nat.le_of_ble_eq_true rfl⟩) hP hS rfl hl.1 rfl (Nat.le_of_ble_eq_true rfl) dX10_pay_18 ⟨Nat.zero_le _, Nat.zero_le _⟩ (fun H locs hP hS => ?_)
    refine lv_if_ne (tgt := 27) hx hb dX10_pay_21 (by decide) (fun c_21 => ?_) (fun c_21 => ?_)
    · rw [mIn_R, hc, Int32.toInt_toInt64] at c_21
      have hq2 : inR 1 (v.2.1 20 cc).toInt q = true := (zI_ne _).mp c_21
      refine lv_aload_n hx hb dX10_pay_27 rfl (lv_at hl 0 rfl) ?_
      refine mg_owes hx hb hts hin hown hK hP (by decide +kernel) dX10_pay_28 ?_
      refine lv_iload_n hx hb dX10_pay_31 rfl (lv_at hl 1 rfl) ?_
      refine lv_dup2_11 hx hb dX10_pay_32 rfl rfl ?_
      refine ml_owes hx hb hK hP (hi) dX10_pay_33 ?_
      refine lv_iload_n hx hb dX10_pay_34 rfl (lv_at hl 2 rfl) ?_
      refine lv_isub hx hb dX10_pay_35 ?_
      refine ms_owes hx hb hK hP hD hS (hi) dX10_pay_36 (fun H locs hP hD hS => ?_)
      refine lv_aload_n hx hb dX10_pay_37 rfl (lv_at hl 0 rfl) ?_
      refine mg_owes hx hb hts hin hown hK hP (by decide +kernel) dX10_pay_38 ?_
      refine lv_iload_n hx hb dX10_pay_41 rfl (lv_at hl 1 rfl) ?_
      refine ml_owes hx hb hK hP (hi) dX10_pay_42 ?_
      exact m_reti hx hb hr hlocks hAe hK hP hD hS rfl dX10_pay_43 (Or.inr ⟨cc, hcc, rfl, hq2, by rw [hc]; simp [mrU, va_up, upd], by rw [hc]⟩)
    · rw [mIn_R, hc, Int32.toInt_toInt64] at c_21
      have hq2 : inR 1 (v.2.1 20 cc).toInt q = false := (zI_eq _).mp c_21
      refine lv_bipush (v := (-2)) hx hb dX10_pay_24 (by decide) ?_
      exact m_reti hx hb hr hlocks hAe hK hP hD hS rfl dX10_pay_26 (Or.inl ⟨rfl, rfl, fun c hc9 e9 => by rw [show c = cc from ((nI_eq (by omega) (by omega)).mp e9).symm]; exact hq2⟩)
