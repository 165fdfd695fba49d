/-! the reference: the calls on citizens -/
theorem tI (x : Int32) (k : Int) (j : Int32) (hj : j.toInt = k) (h : ¬ x = j) : x.toInt ≠ k := fun q => h (Int32.toInt_inj.mp (q.trans hj.symm))
abbrev isC (n : Nat) (t : Int32) : Bool := inR 0 ((n : Int) - 1) t
abbrev sI (t : Int32) : Nat := t.toNatClampNeg
set_option maxHeartbeats 4000000 in
set_option maxRecDepth 100000 in
/-- end(t) -/
theorem ctX10_end (l : Launch) (D : va_G) (y : Nat → ClassId) (h : Nat) (a : Nat → Nat) (v : mS) (t : Int32) : mMi l yX10_end wsX10_end ({ frames := 0, cells := 0, slots := 0, locals := 0 }) D y h a v [.ref h, .int t] (fun r v' => (r, v') = (if 0 ≤ t ∧ t ≤ v.1 1 then (t, miU v 1 t) else (-1, v))) := by
  refine mMi_of (cc := cX10_end) (maxL := 2) (ret := (some .int)) rfl rfl (Nat.le_of_ble_eq_true rfl) ?_
  intro p e s m below meth c A ls hat hAe hl
  obtain ⟨hx, hb, hr, hml, hts, hown, hlocks, hK, hP, hD, hA⟩ := hat
  have hin : ∀ w ∈ wsX100, w ∈ wsX10_end := fun _ h9 => List.mem_cons_of_mem _ (List.mem_append_right _ h9)
  have hl : lv_has ls 2 [(0, .ref h), (1, .int t)] := hl
  have hS : va_S A s.heap s.heap [] := va_S.rf
  refine lv_iload_n hx hb dX10_end_0 rfl (lv_at hl 1 rfl) ?_
  refine lv_if_lt (tgt := 12) hx hb dX10_end_1 (by decide) (fun c_1 => ?_) (fun c_1 => ?_)
  · refine lv_iconst (v := (-1)) hx hb dX10_end_12 (by decide) ?_
    exact m_reti hx hb hr hlocks hAe hK hP hD hS rfl dX10_end_13 (by rw [if_neg (fun q => absurd c_1 (Int32.not_lt.mpr q.1))])
  · refine lv_iload_n hx hb dX10_end_4 rfl (lv_at hl 1 rfl) ?_
    refine lv_aload_n hx hb dX10_end_5 rfl (lv_at hl 0 rfl) ?_
    refine mg_taped hx hb hts hin hown hK hP (by decide +kernel) dX10_end_6 ?_
    refine lv_icmp_le (tgt := 14) hx hb dX10_end_9 (by decide) (fun c_9 => ?_) (fun c_9 => ?_)
    · refine lv_aload_n hx hb dX10_end_14 rfl (lv_at hl 0 rfl) ?_
      refine lv_iload_n hx hb dX10_end_15 rfl (lv_at hl 1 rfl) ?_
      refine mp_taped hx hb hts hin hown hK hP hD hS (by decide +kernel) dX10_end_16 (fun H locs hP hD hS => ?_)
      refine lv_iload_n hx hb dX10_end_19 rfl (lv_at hl 1 rfl) ?_
      exact m_reti hx hb hr hlocks hAe hK hP hD hS rfl dX10_end_20 (by rw [if_pos ⟨Int32.not_lt.mp c_1, c_9⟩])
    · refine lv_iconst (v := (-1)) hx hb dX10_end_12 (by decide) ?_
      exact m_reti hx hb hr hlocks hAe hK hP hD hS rfl dX10_end_13 (by rw [if_neg (fun q => c_9 q.2)])
set_option maxHeartbeats 4000000 in
set_option maxRecDepth 100000 in
/-- fault(t) -/
theorem ctX10_fault (l : Launch) (D : va_G) (y : Nat → ClassId) (h : Nat) (a : Nat → Nat) (v : mS) (t : Int32) : mMi l yX10_fault wsX10_fault ({ frames := 0, cells := 0, slots := 0, locals := 0 }) D y h a v [.ref h, .int t] (fun r v' => r = (if t = 0 then v.1 8 else if t = 1 then v.1 9 else -1) ∧ v' = v) := by
  refine mMi_of (cc := cX10_fault) (maxL := 2) (ret := (some .int)) rfl rfl (Nat.le_of_ble_eq_true rfl) ?_
  intro p e s m below meth c A ls hat hAe hl
  obtain ⟨hx, hb, hr, hml, hts, hown, hlocks, hK, hP, hD, hA⟩ := hat
  have hin : ∀ w ∈ wsX100, w ∈ wsX10_fault := fun _ h9 => List.mem_cons_of_mem _ (List.mem_append_right _ h9)
  have hl : lv_has ls 2 [(0, .ref h), (1, .int t)] := hl
  have hS : va_S A s.heap s.heap [] := va_S.rf
  refine lv_iload_n hx hb dX10_fault_0 rfl (lv_at hl 1 rfl) ?_
  refine lv_if_ne (tgt := 11) hx hb dX10_fault_1 (by decide) (fun c_1 => ?_) (fun c_1 => ?_)
  · refine lv_iload_n hx hb dX10_fault_11 rfl (lv_at hl 1 rfl) ?_
    refine lv_iconst (v := 1) hx hb dX10_fault_12 (by decide) ?_
    refine lv_icmp_ne (tgt := 23) hx hb dX10_fault_13 (by decide) (fun c_13 => ?_) (fun c_13 => ?_)
    · refine lv_iconst (v := (-1)) hx hb dX10_fault_23 (by decide) ?_
      exact m_reti hx hb hr hlocks hAe hK hP hD hS rfl dX10_fault_24 (⟨by simp [c_1, c_13], rfl⟩)
    · refine lv_aload_n hx hb dX10_fault_16 rfl (lv_at hl 0 rfl) ?_
      refine mg_faultPlace hx hb hts hin hown hK hP (by decide +kernel) dX10_fault_17 ?_
      refine lv_goto (tgt := 24) hx hb dX10_fault_20 (by decide) ?_
      exact m_reti hx hb hr hlocks hAe hK hP hD hS rfl dX10_fault_24 (⟨by simp [c_1, c_13], rfl⟩)
  · refine lv_aload_n hx hb dX10_fault_4 rfl (lv_at hl 0 rfl) ?_
    refine mg_faultKind hx hb hts hin hown hK hP (by decide +kernel) dX10_fault_5 ?_
    refine lv_goto (tgt := 24) hx hb dX10_fault_8 (by decide) ?_
    exact m_reti hx hb hr hlocks hAe hK hP hD hS rfl dX10_fault_24 (⟨by simp [c_1], rfl⟩)
def spSwear (n : Nat) (v : mS) (t : Int32) : Int32 × mS := if isC n t then ((if v.2.1 19 (sI t) = 0 then 1 else 0), mrU v 19 (sI t) 1) else (-2, v)
set_option maxHeartbeats 4000000 in
set_option maxRecDepth 100000 in
/-- swear(t) -/
theorem ctX10_swear (l : Launch) (D : va_G) (y : Nat → ClassId) (h : Nat) (a : Nat → Nat) (v : mS) (t : Int32) (n : Nat) (hn : v.1 15 = nI n) (hn1 : n ≤ 150) : mMi l yX10_swear wsX10_swear ({ frames := 2, cells := 0, slots := 0, locals := 46 }) D y h a v [.ref h, .int t] (fun r v' => (r, v') = spSwear n v t) := by
  refine mMi_of (cc := cX10_swear) (maxL := 3) (ret := (some .int)) rfl rfl (Nat.le_of_ble_eq_true rfl) ?_
  intro p e s m below meth c A ls hat hAe hl
  obtain ⟨hx, hb, hr, hml, hts, hown, hlocks, hK, hP, hD, hA⟩ := hat
  have hin : ∀ w ∈ wsX100, w ∈ wsX10_swear := fun _ h9 => List.mem_cons_of_mem _ (List.mem_append_right _ h9)
  have hl : lv_has ls 3 [(0, .ref h), (1, .int t)] := hl
  have hS : va_S A s.heap s.heap [] := va_S.rf
  refine lv_aload_n hx hb dX10_swear_0 rfl (lv_at hl 0 rfl) ?_
  refine lv_iload_n hx hb dX10_swear_1 rfl (lv_at hl 1 rfl) ?_
  refine m_callip (As := [.int t]) (rest := []) ⟨hx, hb, hml, hown, hts⟩ (ctX10_isCitizen l D y h a v t n hn hn1) (cwV 1 hts gX10_swear_X10_isCitizen rfl rfl rfl (by decide +kernel) ⟨Nat.le_of_ble_eq_true rfl, Nat.le_of_ble_eq_true rfl⟩) hK hP hD hS hA rfl hl.1 rfl (Nat.le_of_ble_eq_true rfl) dX10_swear_2 ⟨Nat.zero_le _, Nat.zero_le _⟩ (fun H locs hP hD hS => ?_)
  refine lv_topi (fun r2 er2 => ?_)
  refine lv_if_ne (tgt := 11) hx hb dX10_swear_5 (by decide) (fun c_5 => ?_) (fun c_5 => ?_)
  · rw [er2] at c_5
    have b5 : isC n t = true := (zI_ne _).mp c_5
    obtain ⟨cc, hcc, etcc⟩ := (inR_c (n := n) (by omega)).mp b5
    have hccc : t.toNatClampNeg = cc := by rw [etcc]; exact nI_clamp (by omega)
    have hicc : vp_in t 150 := by rw [etcc]; exact vp_in_nI (by omega) (by omega)
    refine lv_aload_n hx hb dX10_swear_11 rfl (lv_at hl 0 rfl) ?_
    refine mg_sworn hx hb hts hin hown hK hP (by decide +kernel) dX10_swear_12 ?_
    refine lv_iload_n hx hb dX10_swear_15 rfl (lv_at hl 1 rfl) ?_
    refine ml_sworn hx hb hK hP (hicc) dX10_swear_16 ?_
    refine lv_topi (fun x2 ex2 => ?_)
    refine lv_istore_n (lv' := [(2, .int x2), (0, .ref h), (1, .int t)]) hx hb dX10_swear_17 rfl hl (by decide) rfl (fun ls hl => ?_)
    refine lv_aload_n hx hb dX10_swear_18 rfl (lv_at hl 1 rfl) ?_
    refine mg_sworn hx hb hts hin hown hK hP (by decide +kernel) dX10_swear_19 ?_
    refine lv_iload_n hx hb dX10_swear_22 rfl (lv_at hl 2 rfl) ?_
    refine lv_iconst (v := 1) hx hb dX10_swear_23 (by decide) ?_
    refine ms_sworn hx hb hK hP hD hS (hicc) dX10_swear_24 (fun H locs hP hD hS => ?_)
    refine lv_iload_n hx hb dX10_swear_25 rfl (lv_at hl 0 rfl) ?_
    refine lv_if_eq (tgt := 33) hx hb dX10_swear_26 (by decide) (fun c_26 => ?_) (fun c_26 => ?_)
    · refine lv_iconst (v := 1) hx hb dX10_swear_33 (by decide) ?_
      exact m_reti hx hb hr hlocks hAe hK hP hD hS rfl dX10_swear_34 (by rw [ex2] at c_26; simp [spSwear, b5, c_26, nar1, sI])
    · refine lv_iconst (v := 0) hx hb dX10_swear_29 (by decide) ?_
      refine lv_goto (tgt := 34) hx hb dX10_swear_30 (by decide) ?_
      exact m_reti hx hb hr hlocks hAe hK hP hD hS rfl dX10_swear_34 (by rw [ex2] at c_26; simp [spSwear, b5, c_26, nar1, sI])
  · rw [er2] at c_5
    have b5 : isC n t = false := (zI_eq _).mp c_5
    refine lv_bipush (v := (-2)) hx hb dX10_swear_8 (by decide) ?_
    exact m_reti hx hb hr hlocks hAe hK hP hD hS rfl dX10_swear_10 (by simp [spSwear, b5])
def spPay (n : Nat) (v : mS) (t q : Int32) : Int32 × mS := if isC n t && inR 1 (v.2.1 20 (sI t)).toInt q then (v.2.1 20 (sI t) - q, mrU v 20 (sI t) (v.2.1 20 (sI t) - q)) else (-2, v)
set_option maxHeartbeats 4000000 in
set_option maxRecDepth 100000 in
/-- pay(t, q) -/
theorem ctX10_pay (l : Launch) (D : va_G) (y : Nat → ClassId) (h : Nat) (a : Nat → Nat) (v : mS) (t q : Int32) (n : Nat) (hn : v.1 15 = nI n) (hn1 : n ≤ 150) : mMi l yX10_pay wsX10_pay ({ frames := 2, cells := 0, slots := 0, locals := 46 }) D y h a v [.ref h, .int t, .int q] (fun r v' => (r, v') = spPay n v t q) := by
  refine mMi_of (cc := cX10_pay) (maxL := 3) (ret := (some .int)) rfl rfl (Nat.le_of_ble_eq_true rfl) ?_
  intro p e s m below meth c A ls hat hAe hl
  obtain ⟨hx, hb, hr, hml, hts, hown, hlocks, hK, hP, hD, hA⟩ := hat
  have hin : ∀ w ∈ wsX100, w ∈ wsX10_pay := fun _ h9 => List.mem_cons_of_mem _ (List.mem_append_right _ h9)
  have hl : lv_has ls 3 [(0, .ref h), (1, .int t), (2, .int q)] := hl
  have hS : va_S A s.heap s.heap [] := va_S.rf
  refine lv_aload_n hx hb dX10_pay_0 rfl (lv_at hl 0 rfl) ?_
  refine lv_iload_n hx hb dX10_pay_1 rfl (lv_at hl 1 rfl) ?_
  refine m_callip (As := [.int t]) (rest := []) ⟨hx, hb, hml, hown, hts⟩ (ctX10_isCitizen l D y h a v t n hn hn1) (cwV 1 hts gX10_pay_X10_isCitizen rfl rfl rfl (by decide +kernel) ⟨Nat.le_of_ble_eq_true rfl, Nat.le_of_ble_eq_true rfl⟩) hK hP hD hS hA rfl hl.1 rfl (Nat.le_of_ble_eq_true rfl) dX10_pay_2 ⟨Nat.zero_le _, Nat.zero_le _⟩ (fun H locs hP hD hS => ?_)
  refine lv_topi (fun r2 er2 => ?_)
  refine lv_if_eq (tgt := 24) hx hb dX10_pay_5 (by decide) (fun c_5 => ?_) (fun c_5 => ?_)
  · rw [er2] at c_5
    have b5 : isC n t = false := (zI_eq _).mp c_5
    refine lv_bipush (v := (-2)) hx hb dX10_pay_24 (by decide) ?_
    exact m_reti hx hb hr hlocks hAe hK hP hD hS rfl dX10_pay_26 (by simp [spPay, b5])
  · rw [er2] at c_5
    have b5 : isC n t = true := (zI_ne _).mp c_5
    obtain ⟨cc, hcc, etcc⟩ := (inR_c (n := n) (by omega)).mp b5
    have hccc : t.toNatClampNeg = cc := by rw [etcc]; exact nI_clamp (by omega)
    have hicc : vp_in t 150 := by rw [etcc]; exact vp_in_nI (by omega) (by omega)
    refine lv_iload_n hx hb dX10_pay_8 rfl (lv_at hl 2 rfl) ?_
    refine lv_i2l hx hb dX10_pay_9 rfl ?_
    refine lv_lconst (v := 1) hx hb dX10_pay_10 (by decide) ?_
    refine lv_aload_n hx hb dX10_pay_11 rfl (lv_at hl 0 rfl) ?_
    refine mg_owes hx hb hts hin hown hK hP (by decide +kernel) dX10_pay_12 ?_
    refine lv_iload_n hx hb dX10_pay_15 rfl (lv_at hl 1 rfl) ?_
    refine ml_owes hx hb hK hP (hicc) dX10_pay_16 ?_
    refine lv_i2l hx hb dX10_pay_17 rfl ?_
    refine s_calli (As := [.long (q.toInt64), .long 1, .long _]) (rest := []) ⟨hx, hb, hml, hown, hts⟩ (ctX10_in l _ _ _) (cwS 3 hts gX10_pay_X10_in rfl rfl rfl (by decide +kernel) ⟨Nat.le_of_ble_eq_true rfl, Nat.le_of_ble_eq_true rfl⟩) hP hS rfl hl.1 rfl (Nat.le_of_ble_eq_true rfl) dX10_pay_18 ⟨Nat.zero_le _, Nat.zero_le _⟩ (fun H locs hP hS => ?_)
    refine lv_if_ne (tgt := 27) hx hb dX10_pay_21 (by decide) (fun c_21 => ?_) (fun c_21 => ?_)
    · rw [mIn_R, Int32.toInt_toInt64] at c_21
      have b21 : inR 1 (v.2.1 20 (sI t)).toInt q = true := (zI_ne _).mp c_21
      refine lv_aload_n hx hb dX10_pay_27 rfl (lv_at hl 0 rfl) ?_
      refine mg_owes hx hb hts hin hown hK hP (by decide +kernel) dX10_pay_28 ?_
      refine lv_iload_n hx hb dX10_pay_31 rfl (lv_at hl 1 rfl) ?_
      refine lv_dup2_11 hx hb dX10_pay_32 rfl rfl ?_
      refine ml_owes hx hb hK hP (hicc) dX10_pay_33 ?_
      refine lv_iload_n hx hb dX10_pay_34 rfl (lv_at hl 2 rfl) ?_
      refine lv_isub hx hb dX10_pay_35 ?_
      refine ms_owes hx hb hK hP hD hS (hicc) dX10_pay_36 (fun H locs hP hD hS => ?_)
      refine lv_aload_n hx hb dX10_pay_37 rfl (lv_at hl 0 rfl) ?_
      refine mg_owes hx hb hts hin hown hK hP (by decide +kernel) dX10_pay_38 ?_
      refine lv_iload_n hx hb dX10_pay_41 rfl (lv_at hl 1 rfl) ?_
      refine ml_owes hx hb hK hP (hicc) dX10_pay_42 ?_
      exact m_reti hx hb hr hlocks hAe hK hP hD hS rfl dX10_pay_43 (by simp [spPay, b5, b21, mrU, va_up, upd, sI])
    · rw [mIn_R, Int32.toInt_toInt64] at c_21
      have b21 : inR 1 (v.2.1 20 (sI t)).toInt q = false := (zI_eq _).mp c_21
      refine lv_bipush (v := (-2)) hx hb dX10_pay_24 (by decide) ?_
      exact m_reti hx hb hr hlocks hAe hK hP hD hS rfl dX10_pay_26 (by simp [spPay, b21])
theorem add64 (x y : Int32) : (x.toInt64 + y.toInt64).toInt = x.toInt + y.toInt := by
  rw [Int64.toInt_add, Int32.toInt_toInt64, Int32.toInt_toInt64]
  have h1 := x.toInt_lt; have h2 := x.le_toInt; have h3 := y.toInt_lt; have h4 := y.le_toInt
  rw [Int.bmod_eq_of_le]
  · omega
  · omega
def okOwe (n : Nat) (v : mS) (t q day : Int32) : Bool := isC n t && (inR 1 1000000000 q && (inR 0 (v.1 14).toInt day && decide ((v.2.1 20 (sI t)).toInt + q.toInt ≤ 2000000000)))
def spOwe (n : Nat) (ns : Nat → Nat) (v : mS) (t q day : Int32) : Int32 × mS := if okOwe n v t q day then (v.2.1 20 (sI t) + q, mLay v ns (sI t) q) else (-2, v)
theorem mLay_owes (v : mS) (ns : Nat → Nat) (cc : Nat) (q : Int32) : (mLay v ns cc q).2.1 20 cc = v.2.1 20 cc + q := by
  rw [mLay, (layK_keep _ _ _ _).2.1 20 (by decide)]
  simp [mrU, va_up, upd]
set_option maxHeartbeats 4000000 in
set_option maxRecDepth 100000 in
/-- owe(t, q, day) -/
theorem ctX10_owe (l : Launch) (D : va_G) (y : Nat → ClassId) (h : Nat) (a : Nat → Nat) (v : mS) (t q day : Int32) (n : Nat) (ns : Nat → Nat) (hn : v.1 15 = nI n) (hn1 : n ≤ 150) (hns : ∀ k, k < 5 → v.2.1 32 k = nI (ns k) ∧ ns k ≤ 25) : mMi l yX10_owe wsX10_owe ({ frames := 2, cells := 0, slots := 0, locals := 46 }) D y h a v [.ref h, .int t, .int q, .int day] (fun r v' => (r, v') = spOwe n ns v t q day) := by
  refine mMi_of (cc := cX10_owe) (maxL := 4) (ret := (some .int)) rfl rfl (Nat.le_of_ble_eq_true rfl) ?_
  intro p e s m below meth c A ls hat hAe hl
  obtain ⟨hx, hb, hr, hml, hts, hown, hlocks, hK, hP, hD, hA⟩ := hat
  have hin : ∀ w ∈ wsX100, w ∈ wsX10_owe := fun _ h9 => List.mem_cons_of_mem _ (List.mem_append_right _ h9)
  have hl : lv_has ls 4 [(0, .ref h), (1, .int t), (2, .int q), (3, .int day)] := hl
  have hS : va_S A s.heap s.heap [] := va_S.rf
  refine lv_aload_n hx hb dX10_owe_0 rfl (lv_at hl 0 rfl) ?_
  refine lv_iload_n hx hb dX10_owe_1 rfl (lv_at hl 1 rfl) ?_
  refine m_callip (As := [.int t]) (rest := []) ⟨hx, hb, hml, hown, hts⟩ (ctX10_isCitizen l D y h a v t n hn hn1) (cwV 1 hts gX10_owe_X10_isCitizen rfl rfl rfl (by decide +kernel) ⟨Nat.le_of_ble_eq_true rfl, Nat.le_of_ble_eq_true rfl⟩) hK hP hD hS hA rfl hl.1 rfl (Nat.le_of_ble_eq_true rfl) dX10_owe_2 ⟨Nat.zero_le _, Nat.zero_le _⟩ (fun H locs hP hD hS => ?_)
  refine lv_topi (fun r2 er2 => ?_)
  refine lv_if_eq (tgt := 51) hx hb dX10_owe_5 (by decide) (fun c_5 => ?_) (fun c_5 => ?_)
  · rw [er2] at c_5
    have b5 : isC n t = false := (zI_eq _).mp c_5
    refine lv_bipush (v := (-2)) hx hb dX10_owe_51 (by decide) ?_
    exact m_reti hx hb hr hlocks hAe hK hP hD hS rfl dX10_owe_53 (by simp [spOwe, okOwe, b5])
  · rw [er2] at c_5
    have b5 : isC n t = true := (zI_ne _).mp c_5
    obtain ⟨cc, hcc, etcc⟩ := (inR_c (n := n) (by omega)).mp b5
    have hccc : t.toNatClampNeg = cc := by rw [etcc]; exact nI_clamp (by omega)
    have hicc : vp_in t 150 := by rw [etcc]; exact vp_in_nI (by omega) (by omega)
    refine lv_iload_n hx hb dX10_owe_8 rfl (lv_at hl 2 rfl) ?_
    refine lv_i2l hx hb dX10_owe_9 rfl ?_
    refine lv_lconst (v := 1) hx hb dX10_owe_10 (by decide) ?_
    refine lv_ldc2 (v := 1000000000) hx hb hown (hts (.constantLong RX10 243 (1000000000)) (by decide +kernel)) dX10_owe_11 ?_
    refine s_calli (As := [.long (q.toInt64), .long 1, .long 1000000000]) (rest := []) ⟨hx, hb, hml, hown, hts⟩ (ctX10_in l _ _ _) (cwS 3 hts gX10_owe_X10_in rfl rfl rfl (by decide +kernel) ⟨Nat.le_of_ble_eq_true rfl, Nat.le_of_ble_eq_true rfl⟩) hP hS rfl hl.1 rfl (Nat.le_of_ble_eq_true rfl) dX10_owe_14 ⟨Nat.zero_le _, Nat.zero_le _⟩ (fun H locs hP hS => ?_)
    refine lv_if_eq (tgt := 51) hx hb dX10_owe_17 (by decide) (fun c_17 => ?_) (fun c_17 => ?_)
    · rw [mIn_R] at c_17
      have b17 : inR 1 1000000000 q = false := (zI_eq _).mp c_17
      refine lv_bipush (v := (-2)) hx hb dX10_owe_51 (by decide) ?_
      exact m_reti hx hb hr hlocks hAe hK hP hD hS rfl dX10_owe_53 (by simp [spOwe, okOwe, b5, b17])
    · rw [mIn_R] at c_17
      have b17 : inR 1 1000000000 q = true := (zI_ne _).mp c_17
      refine lv_iload_n hx hb dX10_owe_20 rfl (lv_at hl 3 rfl) ?_
      refine lv_i2l hx hb dX10_owe_21 rfl ?_
      refine lv_lconst (v := 0) hx hb dX10_owe_22 (by decide) ?_
      refine lv_aload_n hx hb dX10_owe_23 rfl (lv_at hl 0 rfl) ?_
      refine mg_clock hx hb hts hin hown hK hP (by decide +kernel) dX10_owe_24 ?_
      refine lv_i2l hx hb dX10_owe_27 rfl ?_
      refine s_calli (As := [.long (day.toInt64), .long 0, .long _]) (rest := []) ⟨hx, hb, hml, hown, hts⟩ (ctX10_in l _ _ _) (cwS 3 hts gX10_owe_X10_in rfl rfl rfl (by decide +kernel) ⟨Nat.le_of_ble_eq_true rfl, Nat.le_of_ble_eq_true rfl⟩) hP hS rfl hl.1 rfl (Nat.le_of_ble_eq_true rfl) dX10_owe_28 ⟨Nat.zero_le _, Nat.zero_le _⟩ (fun H locs hP hS => ?_)
      refine lv_if_eq (tgt := 51) hx hb dX10_owe_31 (by decide) (fun c_31 => ?_) (fun c_31 => ?_)
      · rw [mIn_R, Int32.toInt_toInt64] at c_31
        have b31 : inR 0 (v.1 14).toInt day = false := (zI_eq _).mp c_31
        refine lv_bipush (v := (-2)) hx hb dX10_owe_51 (by decide) ?_
        exact m_reti hx hb hr hlocks hAe hK hP hD hS rfl dX10_owe_53 (by simp [spOwe, okOwe, b5, b17, b31])
      · rw [mIn_R, Int32.toInt_toInt64] at c_31
        have b31 : inR 0 (v.1 14).toInt day = true := (zI_ne _).mp c_31
        refine lv_aload_n hx hb dX10_owe_34 rfl (lv_at hl 0 rfl) ?_
        refine mg_owes hx hb hts hin hown hK hP (by decide +kernel) dX10_owe_35 ?_
        refine lv_iload_n hx hb dX10_owe_38 rfl (lv_at hl 1 rfl) ?_
        refine ml_owes hx hb hK hP (hicc) dX10_owe_39 ?_
        refine lv_i2l hx hb dX10_owe_40 rfl ?_
        refine lv_iload_n hx hb dX10_owe_41 rfl (lv_at hl 2 rfl) ?_
        refine lv_i2l hx hb dX10_owe_42 rfl ?_
        refine lv_ladd hx hb dX10_owe_43 ?_
        refine lv_ldc2 (v := 2000000000) hx hb hown (hts (.constantLong RX10 245 (2000000000)) (by decide +kernel)) dX10_owe_44 ?_
        refine W.lcmp hx hb dX10_owe_47 ?_
        refine lv_if_le (tgt := 54) hx hb dX10_owe_48 (by decide) (fun c_48 => ?_) (fun c_48 => ?_)
        · have b48 : (v.2.1 20 (sI t)).toInt + q.toInt ≤ 2000000000 := by have h9 := Int64.le_iff_toInt_le.mp ((lg_cmp_le _ _).mp c_48); rw [add64] at h9; exact h9
          refine lv_aload_n hx hb dX10_owe_54 rfl (lv_at hl 0 rfl) ?_
          refine lv_iload_n hx hb dX10_owe_55 rfl (lv_at hl 1 rfl) ?_
          refine lv_iload_n hx hb dX10_owe_56 rfl (lv_at hl 2 rfl) ?_
          refine m_callv (As := [.int t, .int q]) (rest := []) ⟨hx, hb, hml, hown, hts⟩ (etcc ▸ ctX10_lay l D y h a v cc q ns (by omega) hns) (cwV 2 hts gX10_owe_X10_lay rfl rfl rfl (by decide +kernel) ⟨Nat.le_of_ble_eq_true rfl, Nat.le_of_ble_eq_true rfl⟩) hK hP hD hS hA rfl hl.1 rfl (Nat.le_of_ble_eq_true rfl) dX10_owe_57 ⟨Nat.zero_le _, Nat.zero_le _⟩ (fun v57 H locs hq hP hD hS => ?_)
          refine lv_aload_n hx hb dX10_owe_60 rfl (lv_at hl 0 rfl) ?_
          refine mg_owes hx hb hts hin hown hK hP (by decide +kernel) dX10_owe_61 ?_
          refine lv_iload_n hx hb dX10_owe_64 rfl (lv_at hl 1 rfl) ?_
          refine ml_owes hx hb hK hP (hicc) dX10_owe_65 ?_
          exact m_reti hx hb hr hlocks hAe hK hP hD hS rfl dX10_owe_66 (by rw [hq, spOwe, if_pos (by simp [okOwe, b5, b17, b31, b48]), show sI t = cc from hccc, hccc, mLay_owes])
        · have b48 : ¬ (v.2.1 20 (sI t)).toInt + q.toInt ≤ 2000000000 := fun q9 => c_48 ((lg_cmp_le _ _).mpr (Int64.le_iff_toInt_le.mpr (by rw [add64]; exact q9)))
          refine lv_bipush (v := (-2)) hx hb dX10_owe_51 (by decide) ?_
          exact m_reti hx hb hr hlocks hAe hK hP hD hS rfl dX10_owe_53 (by simp [spOwe, okOwe, b5, b17, b31, b48])
def spAbout (n T : Nat) (v : mS) (t w : Int32) : Int32 := if isC n t then (if w = 0 then v.2.1 16 (sI t) else if w = 1 then v.2.1 17 (sI t) else if w = 2 then v.2.1 18 (sI t) else if w = 3 then (if v.2.1 19 (sI t) = 0 then 0 else 1) else if w = 4 then v.2.1 20 (sI t) else if w = 5 then zI (mSit v T (sI t)) else if w = 6 then v.2.1 22 (sI t) else if w = 7 then (if v.2.1 23 (sI t) = 0 then 0 else 1) else if w = 8 then v.2.1 24 (sI t) else if w = 9 then v.2.1 21 (sI t) else -1) else -1
set_option maxHeartbeats 4000000 in
set_option maxRecDepth 100000 in
/-- about(t, w) -/
theorem ctX10_about (l : Launch) (D : va_G) (y : Nat → ClassId) (h : Nat) (a : Nat → Nat) (v : mS) (t w : Int32) (n T : Nat) (hn : v.1 15 = nI n) (hn1 : n ≤ 150) (ht : v.1 12 = nI T) (hT : T ≤ 15) : mMi l yX10_about wsX10_about ({ frames := 3, cells := 0, slots := 0, locals := 66 }) D y h a v [.ref h, .int t, .int w] (fun r v' => r = spAbout n T v t w ∧ v' = v) := by
  refine mMi_of (cc := cX10_about) (maxL := 3) (ret := (some .int)) rfl rfl (Nat.le_of_ble_eq_true rfl) ?_
  intro p e s m below meth c A ls hat hAe hl
  obtain ⟨hx, hb, hr, hml, hts, hown, hlocks, hK, hP, hD, hA⟩ := hat
  have hin : ∀ w ∈ wsX100, w ∈ wsX10_about := fun _ h9 => List.mem_cons_of_mem _ (List.mem_append_right _ h9)
  have hl : lv_has ls 3 [(0, .ref h), (1, .int t), (2, .int w)] := hl
  have hS : va_S A s.heap s.heap [] := va_S.rf
  refine lv_aload_n hx hb dX10_about_0 rfl (lv_at hl 0 rfl) ?_
  refine lv_iload_n hx hb dX10_about_1 rfl (lv_at hl 1 rfl) ?_
  refine m_callip (As := [.int t]) (rest := []) ⟨hx, hb, hml, hown, hts⟩ (ctX10_isCitizen l D y h a v t n hn hn1) (cwV 1 hts gX10_about_X10_isCitizen rfl rfl rfl (by decide +kernel) ⟨Nat.le_of_ble_eq_true rfl, Nat.le_of_ble_eq_true rfl⟩) hK hP hD hS hA rfl hl.1 rfl (Nat.le_of_ble_eq_true rfl) dX10_about_2 ⟨Nat.zero_le _, Nat.zero_le _⟩ (fun H locs hP hD hS => ?_)
  refine lv_topi (fun r2 er2 => ?_)
  refine lv_if_ne (tgt := 10) hx hb dX10_about_5 (by decide) (fun c_5 => ?_) (fun c_5 => ?_)
  · rw [er2] at c_5
    have b5 : isC n t = true := (zI_ne _).mp c_5
    obtain ⟨cc, hcc, etcc⟩ := (inR_c (n := n) (by omega)).mp b5
    have hccc : t.toNatClampNeg = cc := by rw [etcc]; exact nI_clamp (by omega)
    have hicc : vp_in t 150 := by rw [etcc]; exact vp_in_nI (by omega) (by omega)
    refine lv_iload_n hx hb dX10_about_10 rfl (lv_at hl 2 rfl) ?_
    refine lv_topi (fun sw_11 esw_11 => ?_)
    by_cases w0_11 : sw_11 = 0
    · subst w0_11
      refine lv_tableIn (tgt := 64) hx hb dX10_about_11 (by decide) (by decide) rfl (by decide) ?_
      refine lv_aload_n hx hb dX10_about_64 rfl (lv_at hl 0 rfl) ?_
      refine mg_tribe hx hb hts hin hown hK hP (by decide +kernel) dX10_about_65 ?_
      refine lv_iload_n hx hb dX10_about_68 rfl (lv_at hl 1 rfl) ?_
      refine ml_tribe hx hb hK hP (hicc) dX10_about_69 ?_
      exact m_reti hx hb hr hlocks hAe hK hP hD hS rfl dX10_about_70 (⟨by simp [spAbout, b5, ← esw_11, sI], rfl⟩)
    by_cases w1_11 : sw_11 = 1
    · subst w1_11
      refine lv_tableIn (tgt := 71) hx hb dX10_about_11 (by decide) (by decide) rfl (by decide) ?_
      refine lv_aload_n hx hb dX10_about_71 rfl (lv_at hl 0 rfl) ?_
      refine mg_letter hx hb hts hin hown hK hP (by decide +kernel) dX10_about_72 ?_
      refine lv_iload_n hx hb dX10_about_75 rfl (lv_at hl 1 rfl) ?_
      refine ml_letter hx hb hK hP (hicc) dX10_about_76 ?_
      exact m_reti hx hb hr hlocks hAe hK hP hD hS rfl dX10_about_77 (⟨by simp [spAbout, b5, ← esw_11, sI], rfl⟩)
    by_cases w2_11 : sw_11 = 2
    · subst w2_11
      refine lv_tableIn (tgt := 78) hx hb dX10_about_11 (by decide) (by decide) rfl (by decide) ?_
      refine lv_aload_n hx hb dX10_about_78 rfl (lv_at hl 0 rfl) ?_
      refine mg_born hx hb hts hin hown hK hP (by decide +kernel) dX10_about_79 ?_
      refine lv_iload_n hx hb dX10_about_82 rfl (lv_at hl 1 rfl) ?_
      refine ml_born hx hb hK hP (hicc) dX10_about_83 ?_
      exact m_reti hx hb hr hlocks hAe hK hP hD hS rfl dX10_about_84 (⟨by simp [spAbout, b5, ← esw_11, sI], rfl⟩)
    by_cases w3_11 : sw_11 = 3
    · subst w3_11
      refine lv_tableIn (tgt := 85) hx hb dX10_about_11 (by decide) (by decide) rfl (by decide) ?_
      refine lv_aload_n hx hb dX10_about_85 rfl (lv_at hl 0 rfl) ?_
      refine mg_sworn hx hb hts hin hown hK hP (by decide +kernel) dX10_about_86 ?_
      refine lv_iload_n hx hb dX10_about_89 rfl (lv_at hl 1 rfl) ?_
      refine ml_sworn hx hb hK hP (hicc) dX10_about_90 ?_
      refine lv_if_eq (tgt := 98) hx hb dX10_about_91 (by decide) (fun c_91 => ?_) (fun c_91 => ?_)
      · refine lv_iconst (v := 0) hx hb dX10_about_98 (by decide) ?_
        exact m_reti hx hb hr hlocks hAe hK hP hD hS rfl dX10_about_99 (⟨by simp [spAbout, b5, ← esw_11, sI, c_91], rfl⟩)
      · refine lv_iconst (v := 1) hx hb dX10_about_94 (by decide) ?_
        refine lv_goto (tgt := 99) hx hb dX10_about_95 (by decide) ?_
        exact m_reti hx hb hr hlocks hAe hK hP hD hS rfl dX10_about_99 (⟨by simp [spAbout, b5, ← esw_11, sI, c_91], rfl⟩)
    by_cases w4_11 : sw_11 = 4
    · subst w4_11
      refine lv_tableIn (tgt := 100) hx hb dX10_about_11 (by decide) (by decide) rfl (by decide) ?_
      refine lv_aload_n hx hb dX10_about_100 rfl (lv_at hl 0 rfl) ?_
      refine mg_owes hx hb hts hin hown hK hP (by decide +kernel) dX10_about_101 ?_
      refine lv_iload_n hx hb dX10_about_104 rfl (lv_at hl 1 rfl) ?_
      refine ml_owes hx hb hK hP (hicc) dX10_about_105 ?_
      exact m_reti hx hb hr hlocks hAe hK hP hD hS rfl dX10_about_106 (⟨by simp [spAbout, b5, ← esw_11, sI], rfl⟩)
    by_cases w5_11 : sw_11 = 5
    · subst w5_11
      refine lv_tableIn (tgt := 107) hx hb dX10_about_11 (by decide) (by decide) rfl (by decide) ?_
      refine lv_aload_n hx hb dX10_about_107 rfl (lv_at hl 0 rfl) ?_
      refine lv_iload_n hx hb dX10_about_108 rfl (lv_at hl 1 rfl) ?_
      refine m_callip (As := [.int t]) (rest := []) ⟨hx, hb, hml, hown, hts⟩ (etcc ▸ ctX10_maySit l D y h a v cc T (by omega) ht hT) (cwV 1 hts gX10_about_X10_maySit rfl rfl rfl (by decide +kernel) ⟨Nat.le_of_ble_eq_true rfl, Nat.le_of_ble_eq_true rfl⟩) hK hP hD hS hA rfl hl.1 rfl (Nat.le_of_ble_eq_true rfl) dX10_about_109 ⟨Nat.zero_le _, Nat.zero_le _⟩ (fun H locs hP hD hS => ?_)
      refine lv_topi (fun r109 er109 => ?_)
      refine lv_if_eq (tgt := 119) hx hb dX10_about_112 (by decide) (fun c_112 => ?_) (fun c_112 => ?_)
      · rw [er109] at c_112
        have b112 : mSit v T cc = false := (zI_eq _).mp c_112
        refine lv_iconst (v := 0) hx hb dX10_about_119 (by decide) ?_
        exact m_reti hx hb hr hlocks hAe hK hP hD hS rfl dX10_about_120 (⟨by simp [spAbout, b5, ← esw_11, show sI t = cc from hccc, b112, zI], rfl⟩)
      · rw [er109] at c_112
        have b112 : mSit v T cc = true := (zI_ne _).mp c_112
        refine lv_iconst (v := 1) hx hb dX10_about_115 (by decide) ?_
        refine lv_goto (tgt := 120) hx hb dX10_about_116 (by decide) ?_
        exact m_reti hx hb hr hlocks hAe hK hP hD hS rfl dX10_about_120 (⟨by simp [spAbout, b5, ← esw_11, show sI t = cc from hccc, b112, zI], rfl⟩)
    by_cases w6_11 : sw_11 = 6
    · subst w6_11
      refine lv_tableIn (tgt := 121) hx hb dX10_about_11 (by decide) (by decide) rfl (by decide) ?_
      refine lv_aload_n hx hb dX10_about_121 rfl (lv_at hl 0 rfl) ?_
      refine mg_place hx hb hts hin hown hK hP (by decide +kernel) dX10_about_122 ?_
      refine lv_iload_n hx hb dX10_about_125 rfl (lv_at hl 1 rfl) ?_
      refine ml_place hx hb hK hP (hicc) dX10_about_126 ?_
      exact m_reti hx hb hr hlocks hAe hK hP hD hS rfl dX10_about_127 (⟨by simp [spAbout, b5, ← esw_11, sI], rfl⟩)
    by_cases w7_11 : sw_11 = 7
    · subst w7_11
      refine lv_tableIn (tgt := 128) hx hb dX10_about_11 (by decide) (by decide) rfl (by decide) ?_
      refine lv_aload_n hx hb dX10_about_128 rfl (lv_at hl 0 rfl) ?_
      refine mg_isChosen hx hb hts hin hown hK hP (by decide +kernel) dX10_about_129 ?_
      refine lv_iload_n hx hb dX10_about_132 rfl (lv_at hl 1 rfl) ?_
      refine ml_isChosen hx hb hK hP (hicc) dX10_about_133 ?_
      refine lv_if_eq (tgt := 141) hx hb dX10_about_134 (by decide) (fun c_134 => ?_) (fun c_134 => ?_)
      · refine lv_iconst (v := 0) hx hb dX10_about_141 (by decide) ?_
        exact m_reti hx hb hr hlocks hAe hK hP hD hS rfl dX10_about_142 (⟨by simp [spAbout, b5, ← esw_11, sI, c_134], rfl⟩)
      · refine lv_iconst (v := 1) hx hb dX10_about_137 (by decide) ?_
        refine lv_goto (tgt := 142) hx hb dX10_about_138 (by decide) ?_
        exact m_reti hx hb hr hlocks hAe hK hP hD hS rfl dX10_about_142 (⟨by simp [spAbout, b5, ← esw_11, sI, c_134], rfl⟩)
    by_cases w8_11 : sw_11 = 8
    · subst w8_11
      refine lv_tableIn (tgt := 143) hx hb dX10_about_11 (by decide) (by decide) rfl (by decide) ?_
      refine lv_aload_n hx hb dX10_about_143 rfl (lv_at hl 0 rfl) ?_
      refine mg_sent hx hb hts hin hown hK hP (by decide +kernel) dX10_about_144 ?_
      refine lv_iload_n hx hb dX10_about_147 rfl (lv_at hl 1 rfl) ?_
      refine ml_sent hx hb hK hP (hicc) dX10_about_148 ?_
      exact m_reti hx hb hr hlocks hAe hK hP hD hS rfl dX10_about_149 (⟨by simp [spAbout, b5, ← esw_11, sI], rfl⟩)
    by_cases w9_11 : sw_11 = 9
    · subst w9_11
      refine lv_tableIn (tgt := 150) hx hb dX10_about_11 (by decide) (by decide) rfl (by decide) ?_
      refine lv_aload_n hx hb dX10_about_150 rfl (lv_at hl 0 rfl) ?_
      refine mg_earned hx hb hts hin hown hK hP (by decide +kernel) dX10_about_151 ?_
      refine lv_iload_n hx hb dX10_about_154 rfl (lv_at hl 1 rfl) ?_
      refine ml_earned hx hb hK hP (hicc) dX10_about_155 ?_
      exact m_reti hx hb hr hlocks hAe hK hP hD hS rfl dX10_about_156 (⟨by simp [spAbout, b5, ← esw_11, sI], rfl⟩)
    refine lv_tableOut (tgt := 157) hx hb dX10_about_11 (by have q0 := tI sw_11 0 0 rfl w0_11; have q1 := tI sw_11 1 1 rfl w1_11; have q2 := tI sw_11 2 2 rfl w2_11; have q3 := tI sw_11 3 3 rfl w3_11; have q4 := tI sw_11 4 4 rfl w4_11; have q5 := tI sw_11 5 5 rfl w5_11; have q6 := tI sw_11 6 6 rfl w6_11; have q7 := tI sw_11 7 7 rfl w7_11; have q8 := tI sw_11 8 8 rfl w8_11; have q9 := tI sw_11 9 9 rfl w9_11; omega) (by decide) ?_
    refine lv_iconst (v := (-1)) hx hb dX10_about_157 (by decide) ?_
    exact m_reti hx hb hr hlocks hAe hK hP hD hS rfl dX10_about_158 (⟨by simp only [spAbout, b5, if_true, w0_11, w1_11, w2_11, w3_11, w4_11, w5_11, w6_11, w7_11, w8_11, w9_11, if_false, ← esw_11], rfl⟩)
  · rw [er2] at c_5
    have b5 : isC n t = false := (zI_eq _).mp c_5
    refine lv_iconst (v := (-1)) hx hb dX10_about_8 (by decide) ?_
    exact m_reti hx hb hr hlocks hAe hK hP hD hS rfl dX10_about_9 (⟨by simp [spAbout, b5], rfl⟩)
