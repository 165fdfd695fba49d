/-! the landed program: its calls, first part -/
def csEnd (x : cS) (t : Int32) : Int32 × cS := if 0 ≤ t ∧ t ≤ x.1 1 0 1 then (t, cI x 1 0 1 t) else (-1, x)
set_option maxHeartbeats 4000000 in
set_option maxRecDepth 100000 in
/-- end -/
theorem ctX9_end (l : Launch) (D : va_G) (y : Nat → ClassId) (ad : Nat → Nat → Nat) (x : cS) (R : List (Nat × Nat)) (qs : Nat → Nat × Nat) (nC nT : Nat) (hR : cHas R nC nT) (t : Int32) : cMi l yX9_end wsX9_end ({ frames := 0, cells := 0, slots := 0, locals := 0 }) D y ad x R qs [.ref (ad 0 0), .int t] (fun r x' => (r, x') = csEnd x t) := by
  refine cMi_of (cc := cX9_end) (maxL := 2) (ret := (some .int)) (by decide) rfl (Nat.le_of_ble_eq_true rfl) ?_
  intro p e s m below meth c A ls hat hAe hl
  obtain ⟨hx, hb, hr, hml, hts, hown, hlocks, hK, hP, hD, hA, hE⟩ := hat
  have hown : s.vm.findClass RX9 = some m.cls := hown
  have hin9 : ∀ w ∈ wsX90, w ∈ wsX9_end := fun _ h9 => List.mem_cons_of_mem _ (List.mem_append_left _ (List.mem_append_right _ h9))
  have hin8 : ∀ w ∈ wsX80, w ∈ wsX9_end := fun _ h9 => List.mem_cons_of_mem _ (List.mem_append_right _ h9)
  have hl : lv_has ls 2 [(0, .ref (ad 0 0)), (1, .int t)] := hl
  have hS : va_S A s.heap s.heap [] := va_S.rf
  refine lv_iload_n hx hb dX9_end_0 rfl (lv_at hl 1 rfl) ?_
  refine lv_if_lt (tgt := 15) hx hb dX9_end_1 (by decide) (fun c_1 => ?_) (fun c_1 => ?_)
  · refine lv_iconst (v := (-1)) hx hb dX9_end_15 (by decide) ?_
    exact c_reti hx hb hr hlocks hAe hK hP hD hS rfl dX9_end_16 (by rw [csEnd, if_neg (fun q => absurd c_1 (Int32.not_lt.mpr q.1))])
  · refine lv_iload_n hx hb dX9_end_4 rfl (lv_at hl 1 rfl) ?_
    refine lv_aload_n hx hb dX9_end_5 rfl (lv_at hl 0 rfl) ?_
    refine cg_X9_tape (i := 0) hx hb hts hin9 hown hK hP ((hR 0 (0)).mpr Nat.zero_lt_one) (by decide +kernel) dX9_end_6 ?_
    refine cg_X8_used (i := 0) hx hb hts hin8 hown hK hP ((hR 1 (0)).mpr Nat.zero_lt_one) (by decide +kernel) dX9_end_9 ?_
    refine lv_icmp_le (tgt := 17) hx hb dX9_end_12 (by decide) (fun c_12 => ?_) (fun c_12 => ?_)
    · refine lv_aload_n hx hb dX9_end_17 rfl (lv_at hl 0 rfl) ?_
      refine cg_X9_tape (i := 0) hx hb hts hin9 hown hK hP ((hR 0 (0)).mpr Nat.zero_lt_one) (by decide +kernel) dX9_end_18 ?_
      refine lv_iload_n hx hb dX9_end_21 rfl (lv_at hl 1 rfl) ?_
      refine cp_X8_used (i := 0) hx hb hts hin8 hown hK hP hD hS ((hR 1 (0)).mpr Nat.zero_lt_one) (by decide +kernel) dX9_end_22 (fun H locs hP hD hS => ?_)
      refine lv_iload_n hx hb dX9_end_25 rfl (lv_at hl 1 rfl) ?_
      exact c_reti hx hb hr hlocks hAe hK hP hD hS rfl dX9_end_26 (by rw [csEnd, if_pos ⟨Int32.not_lt.mp c_1, c_12⟩])
    · refine lv_iconst (v := (-1)) hx hb dX9_end_15 (by decide) ?_
      exact c_reti hx hb hr hlocks hAe hK hP hD hS rfl dX9_end_16 (by rw [csEnd, if_neg (fun q => c_12 q.2)])
def csFault (x : cS) (t : Int32) : Int32 := if t = 0 then x.1 3 0 4 else if t = 1 then x.1 3 0 5 else -1
set_option maxHeartbeats 4000000 in
set_option maxRecDepth 100000 in
/-- fault -/
theorem ctX9_fault (l : Launch) (D : va_G) (y : Nat → ClassId) (ad : Nat → Nat → Nat) (x : cS) (R : List (Nat × Nat)) (qs : Nat → Nat × Nat) (nC nT : Nat) (hR : cHas R nC nT) (t : Int32) : cMi l yX9_fault wsX9_fault ({ frames := 0, cells := 0, slots := 0, locals := 0 }) D y ad x R qs [.ref (ad 0 0), .int t] (fun r x' => r = csFault x t ∧ x' = x) := by
  refine cMi_of (cc := cX9_fault) (maxL := 2) (ret := (some .int)) (by decide) rfl (Nat.le_of_ble_eq_true rfl) ?_
  intro p e s m below meth c A ls hat hAe hl
  obtain ⟨hx, hb, hr, hml, hts, hown, hlocks, hK, hP, hD, hA, hE⟩ := hat
  have hown : s.vm.findClass RX9 = some m.cls := hown
  have hin9 : ∀ w ∈ wsX90, w ∈ wsX9_fault := fun _ h9 => List.mem_cons_of_mem _ (List.mem_append_left _ (List.mem_append_right _ h9))
  have hin5 : ∀ w ∈ wsX50, w ∈ wsX9_fault := fun _ h9 => List.mem_cons_of_mem _ (List.mem_append_right _ h9)
  have hl : lv_has ls 2 [(0, .ref (ad 0 0)), (1, .int t)] := hl
  have hS : va_S A s.heap s.heap [] := va_S.rf
  refine lv_iload_n hx hb dX9_fault_0 rfl (lv_at hl 1 rfl) ?_
  refine lv_if_ne (tgt := 12) hx hb dX9_fault_1 (by decide) (fun c_1 => ?_) (fun c_1 => ?_)
  · refine lv_iload_n hx hb dX9_fault_12 rfl (lv_at hl 1 rfl) ?_
    refine lv_iconst (v := 1) hx hb dX9_fault_13 (by decide) ?_
    refine lv_icmp_ne (tgt := 27) hx hb dX9_fault_14 (by decide) (fun c_14 => ?_) (fun c_14 => ?_)
    · refine lv_iconst (v := (-1)) hx hb dX9_fault_27 (by decide) ?_
      exact c_reti hx hb hr hlocks hAe hK hP hD hS rfl dX9_fault_28 (⟨by simp [csFault, c_1, c_14], rfl⟩)
    · refine lv_aload_n hx hb dX9_fault_17 rfl (lv_at hl 0 rfl) ?_
      refine cg_X9_reader (i := 0) hx hb hts hin9 hown hK hP ((hR 0 (0)).mpr Nat.zero_lt_one) (by decide +kernel) dX9_fault_18 ?_
      refine cg_X5_faultPlace (i := 0) hx hb hts hin5 hown hK hP ((hR 3 (0)).mpr Nat.zero_lt_one) (by decide +kernel) dX9_fault_21 ?_
      refine lv_goto (tgt := 28) hx hb dX9_fault_24 (by decide) ?_
      exact c_reti hx hb hr hlocks hAe hK hP hD hS rfl dX9_fault_28 (⟨by simp [csFault, c_1, c_14], rfl⟩)
  · refine lv_aload_n hx hb dX9_fault_4 rfl (lv_at hl 0 rfl) ?_
    refine cg_X9_reader (i := 0) hx hb hts hin9 hown hK hP ((hR 0 (0)).mpr Nat.zero_lt_one) (by decide +kernel) dX9_fault_5 ?_
    refine cg_X5_faultKind (i := 0) hx hb hts hin5 hown hK hP ((hR 3 (0)).mpr Nat.zero_lt_one) (by decide +kernel) dX9_fault_8 ?_
    exact c_reti hx hb hr hlocks hAe hK hP hD hS rfl dX9_fault_11 (⟨by simp [csFault, c_1], rfl⟩)
def csLaw (x : cS) (nT : Nat) (day w : Int32) : Int32 := if ¬ day < 0 ∧ day ≤ 20000 then cAns x (cFo x day nT) w else -9
set_option maxHeartbeats 4000000 in
set_option maxRecDepth 100000 in
/-- law -/
theorem ctX9_law (l : Launch) (D : va_G) (y : Nat → ClassId) (ad : Nat → Nat → Nat) (x : cS) (R : List (Nat × Nat)) (qs : Nat → Nat × Nat) (nC nT : Nat) (hR : cHas R nC nT) (day w : Int32) (hsz : x.1 6 0 2 = nI nT) (hT15 : nT ≤ 15) (hTx : ∀ j, j < nT → x.2.2 7 0 j = some (j + 2)) : cMi l yX9_law wsX9_law ({ frames := 1, cells := 0, slots := 0, locals := 24 }) D y ad x R qs [.ref (ad 0 0), .int day, .int w] (fun r x' => r = csLaw x nT day w ∧ x' = x) := by
  refine cMi_of (cc := cX9_law) (maxL := 3) (ret := (some .int)) (by decide) rfl (Nat.le_of_ble_eq_true rfl) ?_
  intro p e s m below meth c A ls hat hAe hl
  obtain ⟨hx, hb, hr, hml, hts, hown, hlocks, hK, hP, hD, hA, hE⟩ := hat
  have hown : s.vm.findClass RX9 = some m.cls := hown
  have hin9 : ∀ w ∈ wsX90, w ∈ wsX9_law := fun _ h9 => List.mem_cons_of_mem _ (List.mem_append_left _ (List.mem_append_left _ (List.mem_append_right _ h9)))
  have hin4 : ∀ w ∈ wsX40, w ∈ wsX9_law := fun _ h9 => List.mem_cons_of_mem _ (List.mem_append_left _ (List.mem_append_right _ h9))
  have hin6 : ∀ w ∈ wsX60, w ∈ wsX9_law := fun _ h9 => List.mem_cons_of_mem _ (List.mem_append_right _ h9)
  have hl : lv_has ls 3 [(0, .ref (ad 0 0)), (1, .int day), (2, .int w)] := hl
  have hS : va_S A s.heap s.heap [] := va_S.rf
  refine lv_iload_n hx hb dX9_law_0 rfl (lv_at hl 1 rfl) ?_
  refine lv_if_lt (tgt := 11) hx hb dX9_law_1 (by decide) (fun c_1 => ?_) (fun c_1 => ?_)
  · refine lv_bipush (v := (-9)) hx hb dX9_law_11 (by decide) ?_
    exact c_reti hx hb hr hlocks hAe hK hP hD hS rfl dX9_law_13 (⟨by simp [csLaw, c_1, Int32.not_le.mpr c_1], rfl⟩)
  · refine lv_iload_n hx hb dX9_law_4 rfl (lv_at hl 1 rfl) ?_
    refine lv_sipush (v := 20000) hx hb dX9_law_5 (by decide) ?_
    refine lv_icmp_le (tgt := 14) hx hb dX9_law_8 (by decide) (fun c_8 => ?_) (fun c_8 => ?_)
    · refine lv_aload_n hx hb dX9_law_14 rfl (lv_at hl 0 rfl) ?_
      refine cg_X9_book (i := 0) hx hb hts hin9 hown hK hP ((hR 0 (0)).mpr Nat.zero_lt_one) (by decide +kernel) dX9_law_15 ?_
      refine lv_iload_n hx hb dX9_law_18 rfl (lv_at hl 1 rfl) ?_
      refine c_callep (ci := 4) (q := (RX4, TX4, 3)) (κ := 6) (i := 0) (As := [.int day]) (rest := []) ⟨hx, hb, hml, hown, hts⟩ (ctX4_inForce l D y ad x R qs nC nT hR (day) hsz hT15 hTx) (cwV 1 hts gX9_law_X4_inForce rfl rfl rfl (by decide +kernel) ⟨Nat.le_of_ble_eq_true rfl, Nat.le_of_ble_eq_true rfl⟩) ((hR 6 (0)).mpr Nat.zero_lt_one) (fun _ _ _ => ⟨_, rfl⟩) rfl hE hK hP hD hS hA rfl hl.1 rfl (Nat.le_of_ble_eq_true rfl) dX9_law_19 ⟨Nat.zero_le _, Nat.zero_le _⟩ (fun H locs hP hD hS => ?_)
      refine lv_re (fun e9 => absurd (e9.symm.trans ((rfl : some (cFo x (day) nT) = some (cFo x (day) nT)))) (by simp)) (fun j9 e9 => ?_)
      rw [show j9 = cFo x (day) nT from Option.some.inj (e9.symm.trans ((rfl : some (cFo x (day) nT) = some (cFo x (day) nT))))]
      refine lv_iload_n hx hb dX9_law_22 rfl (lv_at hl 2 rfl) ?_
      refine c_callip (ci := 6) (q := (RX6, TX6, 2)) (κ := 25) (i := cFo x (day) nT) (As := [.int w]) (rest := []) ⟨hx, hb, hml, hown, hts⟩ (ctX6_answer l D y ad x R qs nC nT hR (cFo x day nT) w (cFo_lt x day nT)) (cwV 1 hts gX9_law_X6_answer rfl rfl rfl (by decide +kernel) ⟨Nat.le_of_ble_eq_true rfl, Nat.le_of_ble_eq_true rfl⟩) ((hR 25 (cFo x (day) nT)).mpr (cFo_lt x (day) nT)) (fun _ _ _ => ⟨_, rfl⟩) rfl hE hK hP hD hS hA rfl hl.1 rfl (Nat.le_of_ble_eq_true rfl) dX9_law_23 ⟨Nat.zero_le _, Nat.zero_le _⟩ (fun H locs hP hD hS => ?_)
      exact c_reti hx hb hr hlocks hAe hK hP hD hS rfl dX9_law_26 (⟨by simp [csLaw, c_1, Int32.not_lt.mp c_1, c_8, Int32.not_lt.mpr c_8], rfl⟩)
    · refine lv_bipush (v := (-9)) hx hb dX9_law_11 (by decide) ?_
      exact c_reti hx hb hr hlocks hAe hK hP hD hS rfl dX9_law_13 (⟨by simp [csLaw, c_1, Int32.not_lt.mp c_1, c_8, Int32.not_le.mp c_8], rfl⟩)
def csSwear (x : cS) (nC : Nat) (t : Int32) : Int32 × cS := if isC nC t then (if x.1 24 (sI t) 4 = 0 then (1, cI x 24 (sI t) 4 1) else (0, x)) else (-2, x)
set_option maxHeartbeats 4000000 in
set_option maxRecDepth 100000 in
/-- swear -/
theorem ctX9_swear (l : Launch) (D : va_G) (y : Nat → ClassId) (ad : Nat → Nat → Nat) (x : cS) (R : List (Nat × Nat)) (qs : Nat → Nat × Nat) (nC nT : Nat) (hR : cHas R nC nT) (t : Int32) (hn : x.1 0 0 7 = nI nC) (hn1 : nC ≤ 150) (hro : ∀ c, c < nC → x.2.2 8 0 c = some c) : cMi l yX9_swear wsX9_swear ({ frames := 1, cells := 0, slots := 0, locals := 21 }) D y ad x R qs [.ref (ad 0 0), .int t] (fun r x' => (r, x') = csSwear x nC t) := by
  refine cMi_of (cc := cX9_swear) (maxL := 3) (ret := (some .int)) (by decide) rfl (Nat.le_of_ble_eq_true rfl) ?_
  intro p e s m below meth c A ls hat hAe hl
  obtain ⟨hx, hb, hr, hml, hts, hown, hlocks, hK, hP, hD, hA, hE⟩ := hat
  have hown : s.vm.findClass RX9 = some m.cls := hown
  have hin1 : ∀ w ∈ wsX10, w ∈ wsX9_swear := fun _ h9 => List.mem_cons_of_mem _ (List.mem_append_left _ (List.mem_append_right _ h9))
  have hin9 : ∀ w ∈ wsX90, w ∈ wsX9_swear := fun _ h9 => List.mem_cons_of_mem _ (List.mem_append_right _ h9)
  have hl : lv_has ls 3 [(0, .ref (ad 0 0)), (1, .int t)] := hl
  have hS : va_S A s.heap s.heap [] := va_S.rf
  refine lv_aload_n hx hb dX9_swear_0 rfl (lv_at hl 0 rfl) ?_
  refine lv_iload_n hx hb dX9_swear_1 rfl (lv_at hl 1 rfl) ?_
  refine c_callep (ci := 9) (q := (RX9, TX9, 11)) (κ := 0) (i := 0) (As := [.int t]) (rest := []) ⟨hx, hb, hml, hown, hts⟩ (ctX9_citizenAt l D y ad x R qs nC nT hR (t) hn hn1 hro) (cwV 1 hts gX9_swear_X9_citizenAt rfl rfl rfl (by decide +kernel) ⟨Nat.le_of_ble_eq_true rfl, Nat.le_of_ble_eq_true rfl⟩) ((hR 0 (0)).mpr Nat.zero_lt_one) (fun _ _ _ => ⟨_, rfl⟩) rfl hE hK hP hD hS hA rfl hl.1 rfl (Nat.le_of_ble_eq_true rfl) dX9_swear_2 ⟨Nat.zero_le _, Nat.zero_le _⟩ (fun H locs hP hD hS => ?_)
  refine lv_re (fun e_2 => ?_) (fun c9 e_2 => ?_)
  · have b9 : isC nC (t) = false := citF_n e_2
    refine lv_astore_nN (lv' := [(2, .null), (0, .ref (ad 0 0)), (1, .int t)]) hx hb dX9_swear_5 rfl hl (by decide) rfl (fun ls hl => ?_)
    refine lv_aload_nN hx hb dX9_swear_6 rfl (lv_at hl 0 rfl) ?_
    refine lv_ifnonnullN hx hb dX9_swear_7 ?_
    refine lv_bipush (v := (-2)) hx hb dX9_swear_10 (by decide) ?_
    exact c_reti hx hb hr hlocks hAe hK hP hD hS rfl dX9_swear_12 (by rw [csSwear, if_neg (by rw [b9]; decide)])
  · obtain ⟨b9, hb9, eb9⟩ := citF_s hn1 e_2
    rw [eb9]
    refine lv_astore_n (lv' := [(2, .ref (ad 24 (sI t))), (0, .ref (ad 0 0)), (1, .int t)]) hx hb dX9_swear_5 rfl hl (by decide) rfl (fun ls hl => ?_)
    refine lv_aload_n hx hb dX9_swear_6 rfl (lv_at hl 0 rfl) ?_
    refine lv_ifnonnull (tgt := 13) hx hb dX9_swear_7 (by decide) ?_
    refine lv_aload_n hx hb dX9_swear_13 rfl (lv_at hl 0 rfl) ?_
    refine cg_X1_sworn (i := sI t) hx hb hts hin1 hown hK hP ((hR 24 (sI t)).mpr hb9) (by decide +kernel) dX9_swear_14 ?_
    refine lv_if_eq (tgt := 22) hx hb dX9_swear_17 (by decide) (fun c_17 => ?_) (fun c_17 => ?_)
    · refine lv_aload_n hx hb dX9_swear_22 rfl (lv_at hl 0 rfl) ?_
      refine lv_iconst (v := 1) hx hb dX9_swear_23 (by decide) ?_
      refine cp_X1_sworn (i := sI t) hx hb hts hin1 hown hK hP hD hS ((hR 24 (sI t)).mpr hb9) (by decide) (by decide +kernel) dX9_swear_24 (fun H locs hP hD hS => ?_)
      refine lv_iconst (v := 1) hx hb dX9_swear_27 (by decide) ?_
      exact c_reti hx hb hr hlocks hAe hK hP hD hS rfl dX9_swear_28 (by rw [csSwear, if_pos b9]; simp [c_17])
    · refine lv_iconst (v := 0) hx hb dX9_swear_20 (by decide) ?_
      exact c_reti hx hb hr hlocks hAe hK hP hD hS rfl dX9_swear_21 (by rw [csSwear, if_pos b9]; simp [c_17])
def csPay (x : cS) (nC : Nat) (t q : Int32) : Int32 × cS := if isC nC t = true ∧ ¬ q < 1 ∧ q ≤ x.1 24 (sI t) 5 then (x.1 24 (sI t) 5 - q, cI x 24 (sI t) 5 (x.1 24 (sI t) 5 - q)) else (-2, x)
set_option maxHeartbeats 4000000 in
set_option maxRecDepth 100000 in
/-- pay -/
theorem ctX9_pay (l : Launch) (D : va_G) (y : Nat → ClassId) (ad : Nat → Nat → Nat) (x : cS) (R : List (Nat × Nat)) (qs : Nat → Nat × Nat) (nC nT : Nat) (hR : cHas R nC nT) (t q : Int32) (hn : x.1 0 0 7 = nI nC) (hn1 : nC ≤ 150) (hro : ∀ c, c < nC → x.2.2 8 0 c = some c) : cMi l yX9_pay wsX9_pay ({ frames := 1, cells := 0, slots := 0, locals := 21 }) D y ad x R qs [.ref (ad 0 0), .int t, .int q] (fun r x' => (r, x') = csPay x nC t q) := by
  refine cMi_of (cc := cX9_pay) (maxL := 4) (ret := (some .int)) (by decide) rfl (Nat.le_of_ble_eq_true rfl) ?_
  intro p e s m below meth c A ls hat hAe hl
  obtain ⟨hx, hb, hr, hml, hts, hown, hlocks, hK, hP, hD, hA, hE⟩ := hat
  have hown : s.vm.findClass RX9 = some m.cls := hown
  have hin1 : ∀ w ∈ wsX10, w ∈ wsX9_pay := fun _ h9 => List.mem_cons_of_mem _ (List.mem_append_left _ (List.mem_append_right _ h9))
  have hin9 : ∀ w ∈ wsX90, w ∈ wsX9_pay := fun _ h9 => List.mem_cons_of_mem _ (List.mem_append_right _ h9)
  have hl : lv_has ls 4 [(0, .ref (ad 0 0)), (1, .int t), (2, .int q)] := hl
  have hS : va_S A s.heap s.heap [] := va_S.rf
  refine lv_aload_n hx hb dX9_pay_0 rfl (lv_at hl 0 rfl) ?_
  refine lv_iload_n hx hb dX9_pay_1 rfl (lv_at hl 1 rfl) ?_
  refine c_callep (ci := 9) (q := (RX9, TX9, 11)) (κ := 0) (i := 0) (As := [.int t]) (rest := []) ⟨hx, hb, hml, hown, hts⟩ (ctX9_citizenAt l D y ad x R qs nC nT hR (t) hn hn1 hro) (cwV 1 hts gX9_pay_X9_citizenAt rfl rfl rfl (by decide +kernel) ⟨Nat.le_of_ble_eq_true rfl, Nat.le_of_ble_eq_true rfl⟩) ((hR 0 (0)).mpr Nat.zero_lt_one) (fun _ _ _ => ⟨_, rfl⟩) rfl hE hK hP hD hS hA rfl hl.1 rfl (Nat.le_of_ble_eq_true rfl) dX9_pay_2 ⟨Nat.zero_le _, Nat.zero_le _⟩ (fun H locs hP hD hS => ?_)
  refine lv_re (fun e_2 => ?_) (fun c9 e_2 => ?_)
  · have b9 : isC nC (t) = false := citF_n e_2
    refine lv_astore_nN (lv' := [(3, .null), (0, .ref (ad 0 0)), (1, .int t), (2, .int q)]) hx hb dX9_pay_5 rfl hl (by decide) rfl (fun ls hl => ?_)
    refine lv_aload_nN hx hb dX9_pay_6 rfl (lv_at hl 0 rfl) ?_
    refine lv_ifnullN (tgt := 23) hx hb dX9_pay_7 (by decide) ?_
    refine lv_bipush (v := (-2)) hx hb dX9_pay_23 (by decide) ?_
    exact c_reti hx hb hr hlocks hAe hK hP hD hS rfl dX9_pay_25 (by rw [csPay, if_neg (by simp [b9])])
  · obtain ⟨b9, hb9, eb9⟩ := citF_s hn1 e_2
    rw [eb9]
    refine lv_astore_n (lv' := [(3, .ref (ad 24 (sI t))), (0, .ref (ad 0 0)), (1, .int t), (2, .int q)]) hx hb dX9_pay_5 rfl hl (by decide) rfl (fun ls hl => ?_)
    refine lv_aload_n hx hb dX9_pay_6 rfl (lv_at hl 0 rfl) ?_
    refine lv_ifnull hx hb dX9_pay_7 ?_
    refine lv_iload_n hx hb dX9_pay_10 rfl (lv_at hl 3 rfl) ?_
    refine lv_iconst (v := 1) hx hb dX9_pay_11 (by decide) ?_
    refine lv_icmp_lt (tgt := 23) hx hb dX9_pay_12 (by decide) (fun c_12 => ?_) (fun c_12 => ?_)
    · refine lv_bipush (v := (-2)) hx hb dX9_pay_23 (by decide) ?_
      exact c_reti hx hb hr hlocks hAe hK hP hD hS rfl dX9_pay_25 (by rw [csPay, if_neg (by simp [b9, e_2, c_12, Int32.not_le.mpr c_12])])
    · refine lv_iload_n hx hb dX9_pay_15 rfl (lv_at hl 3 rfl) ?_
      refine lv_aload_n hx hb dX9_pay_16 rfl (lv_at hl 0 rfl) ?_
      refine cg_X1_owed (i := sI t) hx hb hts hin1 hown hK hP ((hR 24 (sI t)).mpr hb9) (by decide +kernel) dX9_pay_17 ?_
      refine lv_icmp_le (tgt := 26) hx hb dX9_pay_20 (by decide) (fun c_20 => ?_) (fun c_20 => ?_)
      · refine lv_aload_n hx hb dX9_pay_26 rfl (lv_at hl 0 rfl) ?_
        refine lv_dup hx hb dX9_pay_27 rfl ?_
        refine cg_X1_owed (i := sI t) hx hb hts hin1 hown hK hP ((hR 24 (sI t)).mpr hb9) (by decide +kernel) dX9_pay_28 ?_
        refine lv_iload_n hx hb dX9_pay_31 rfl (lv_at hl 3 rfl) ?_
        refine lv_isub hx hb dX9_pay_32 ?_
        refine cp_X1_owed (i := sI t) hx hb hts hin1 hown hK hP hD hS ((hR 24 (sI t)).mpr hb9) (by decide +kernel) dX9_pay_33 (fun H locs hP hD hS => ?_)
        refine lv_aload_n hx hb dX9_pay_36 rfl (lv_at hl 0 rfl) ?_
        refine cg_X1_owed (i := sI t) hx hb hts hin1 hown hK hP ((hR 24 (sI t)).mpr hb9) (by decide +kernel) dX9_pay_37 ?_
        exact c_reti hx hb hr hlocks hAe hK hP hD hS rfl dX9_pay_40 (by rw [csPay, if_pos ⟨b9, c_12, c_20⟩]; simp [cI_r])
      · refine lv_bipush (v := (-2)) hx hb dX9_pay_23 (by decide) ?_
        exact c_reti hx hb hr hlocks hAe hK hP hD hS rfl dX9_pay_25 (by rw [csPay, if_neg (by simp [b9, e_2, c_12, Int32.not_lt.mp c_12, c_20, Int32.not_le.mp c_20])])
def okOwe9 (x : cS) (nC : Nat) (t q day : Int32) : Prop := isC nC t = true ∧ ¬ day < 0 ∧ day ≤ x.1 0 0 8 ∧ ¬ q < 1 ∧ ¬ 1000000000 < q ∧ q ≤ 2000000000 - x.1 24 (sI t) 5
theorem cAddD_owed (x : cS) (ns se : Nat → Nat) (c : Nat) (s9 : Int32) : (cAddD x ns se c s9).1 24 c 5 = x.1 24 c 5 + s9 := by
  unfold cAddD cStrk
  split
  · split <;> simp [cOwe, cI_r]
  · simp [cOwe, cI_r]
set_option maxHeartbeats 4000000 in
set_option maxRecDepth 100000 in
/-- owe -/
theorem ctX9_owe (l : Launch) (D : va_G) (y : Nat → ClassId) (ad : Nat → Nat → Nat) (x : cS) (R : List (Nat × Nat)) (qs : Nat → Nat × Nat) (nC nT : Nat) (hR : cHas R nC nT) (t q day : Int32) (ns se : Nat → Nat) (hn : x.1 0 0 7 = nI nC) (hn1 : nC ≤ 150) (hro : ∀ c, c < nC → x.2.2 8 0 c = some c) (hns : ∀ k, k < 5 → x.1 18 k 3 = nI (ns k) ∧ ns k ≤ 25) (hse : ∀ k, k < 5 → x.1 20 k 5 = nI (se k) ∧ se k ≤ 25) : cMi l yX9_owe wsX9_owe ({ frames := 2, cells := 0, slots := 0, locals := 45 }) D y ad x R qs [.ref (ad 0 0), .int t, .int q, .int day] (fun r x' => (okOwe9 x nC t q day → r = x.1 24 (sI t) 5 + q ∧ x' = cAddD x ns se (sI t) q) ∧ (¬ okOwe9 x nC t q day → r = -2 ∧ x' = x)) := by
  refine cMi_of (cc := cX9_owe) (maxL := 5) (ret := (some .int)) (by decide) rfl (Nat.le_of_ble_eq_true rfl) ?_
  intro p e s m below meth c A ls hat hAe hl
  obtain ⟨hx, hb, hr, hml, hts, hown, hlocks, hK, hP, hD, hA, hE⟩ := hat
  have hown : s.vm.findClass RX9 = some m.cls := hown
  have hin9 : ∀ w ∈ wsX90, w ∈ wsX9_owe := fun _ h9 => List.mem_cons_of_mem _ (List.mem_append_left _ (List.mem_append_left _ (List.mem_append_left _ (List.mem_append_right _ h9))))
  have hin1 : ∀ w ∈ wsX10, w ∈ wsX9_owe := fun _ h9 => List.mem_cons_of_mem _ (List.mem_append_left _ (List.mem_append_left _ (List.mem_append_right _ h9)))
  have hin2 : ∀ w ∈ wsX20, w ∈ wsX9_owe := fun _ h9 => List.mem_cons_of_mem _ (List.mem_append_left _ (List.mem_append_right _ h9))
  have hin7 : ∀ w ∈ wsX70, w ∈ wsX9_owe := fun _ h9 => List.mem_cons_of_mem _ (List.mem_append_right _ h9)
  have hl : lv_has ls 5 [(0, .ref (ad 0 0)), (1, .int t), (2, .int q), (3, .int day)] := hl
  have hS : va_S A s.heap s.heap [] := va_S.rf
  refine lv_aload_n hx hb dX9_owe_0 rfl (lv_at hl 0 rfl) ?_
  refine lv_iload_n hx hb dX9_owe_1 rfl (lv_at hl 1 rfl) ?_
  refine c_callep (ci := 9) (q := (RX9, TX9, 11)) (κ := 0) (i := 0) (As := [.int t]) (rest := []) ⟨hx, hb, hml, hown, hts⟩ (ctX9_citizenAt l D y ad x R qs nC nT hR (t) hn hn1 hro) (cwV 1 hts gX9_owe_X9_citizenAt rfl rfl rfl (by decide +kernel) ⟨Nat.le_of_ble_eq_true rfl, Nat.le_of_ble_eq_true rfl⟩) ((hR 0 (0)).mpr Nat.zero_lt_one) (fun _ _ _ => ⟨_, rfl⟩) rfl hE hK hP hD hS hA rfl hl.1 rfl (Nat.le_of_ble_eq_true rfl) dX9_owe_2 ⟨Nat.zero_le _, Nat.zero_le _⟩ (fun H locs hP hD hS => ?_)
  refine lv_re (fun e_2 => ?_) (fun c9 e_2 => ?_)
  · have b9 : isC nC (t) = false := citF_n e_2
    refine lv_astoreN (lv' := [(4, .null), (0, .ref (ad 0 0)), (1, .int t), (2, .int q), (3, .int day)]) hx hb dX9_owe_5 hl (by decide) rfl (fun ls hl => ?_)
    refine lv_aloadN hx hb dX9_owe_7 (lv_at hl 0 rfl) ?_
    refine lv_ifnullN (tgt := 24) hx hb dX9_owe_9 (by decide) ?_
    refine lv_bipush (v := (-2)) hx hb dX9_owe_24 (by decide) ?_
    exact c_reti hx hb hr hlocks hAe hK hP hD hS rfl dX9_owe_26 (⟨fun q9 => absurd q9.1 (by rw [b9]; decide), fun _ => ⟨rfl, rfl⟩⟩)
  · obtain ⟨b9, hb9, eb9⟩ := citF_s hn1 e_2
    rw [eb9]
    refine lv_astore (lv' := [(4, .ref (ad 24 (sI t))), (0, .ref (ad 0 0)), (1, .int t), (2, .int q), (3, .int day)]) hx hb dX9_owe_5 hl (by decide) rfl (fun ls hl => ?_)
    refine lv_aload hx hb dX9_owe_7 (lv_at hl 0 rfl) ?_
    refine lv_ifnull hx hb dX9_owe_9 ?_
    refine lv_iload_n hx hb dX9_owe_12 rfl (lv_at hl 4 rfl) ?_
    refine lv_if_lt (tgt := 24) hx hb dX9_owe_13 (by decide) (fun c_13 => ?_) (fun c_13 => ?_)
    · refine lv_bipush (v := (-2)) hx hb dX9_owe_24 (by decide) ?_
      exact c_reti hx hb hr hlocks hAe hK hP hD hS rfl dX9_owe_26 (⟨fun q9 => absurd q9 (by simp [okOwe9, e_2, c_13, Int32.not_le.mpr c_13]), fun _ => ⟨rfl, rfl⟩⟩)
    · refine lv_iload_n hx hb dX9_owe_16 rfl (lv_at hl 4 rfl) ?_
      refine lv_aload_n hx hb dX9_owe_17 rfl (lv_at hl 1 rfl) ?_
      refine cg_X9_clock (i := 0) hx hb hts hin9 hown hK hP ((hR 0 (0)).mpr Nat.zero_lt_one) (by decide +kernel) dX9_owe_18 ?_
      refine lv_icmp_le (tgt := 27) hx hb dX9_owe_21 (by decide) (fun c_21 => ?_) (fun c_21 => ?_)
      · refine lv_iload_n hx hb dX9_owe_27 rfl (lv_at hl 3 rfl) ?_
        refine lv_iconst (v := 1) hx hb dX9_owe_28 (by decide) ?_
        refine lv_icmp_lt (tgt := 50) hx hb dX9_owe_29 (by decide) (fun c_29 => ?_) (fun c_29 => ?_)
        · refine lv_bipush (v := (-2)) hx hb dX9_owe_50 (by decide) ?_
          exact c_reti hx hb hr hlocks hAe hK hP hD hS rfl dX9_owe_52 (⟨fun q9 => absurd q9 (by simp [okOwe9, e_2, c_13, Int32.not_lt.mp c_13, c_21, Int32.not_lt.mpr c_21, c_29, Int32.not_le.mpr c_29]), fun _ => ⟨rfl, rfl⟩⟩)
        · refine lv_iload_n hx hb dX9_owe_32 rfl (lv_at hl 3 rfl) ?_
          refine lv_ldc (v := 1000000000) hx hb hown (hts (.constant RX9 117 (1000000000)) (by decide +kernel)) dX9_owe_33 ?_
          refine lv_icmp_gt (tgt := 50) hx hb dX9_owe_35 (by decide) (fun c_35 => ?_) (fun c_35 => ?_)
          · refine lv_bipush (v := (-2)) hx hb dX9_owe_50 (by decide) ?_
            exact c_reti hx hb hr hlocks hAe hK hP hD hS rfl dX9_owe_52 (⟨fun q9 => absurd q9 (by simp [okOwe9, e_2, c_13, Int32.not_lt.mp c_13, c_21, Int32.not_lt.mpr c_21, c_29, Int32.not_lt.mp c_29, c_35, Int32.not_le.mpr c_35]), fun _ => ⟨rfl, rfl⟩⟩)
          · refine lv_iload_n hx hb dX9_owe_38 rfl (lv_at hl 3 rfl) ?_
            refine lv_ldc (v := 2000000000) hx hb hown (hts (.constant RX9 118 (2000000000)) (by decide +kernel)) dX9_owe_39 ?_
            refine lv_aload hx hb dX9_owe_41 (lv_at hl 0 rfl) ?_
            refine cg_X1_owed (i := sI t) hx hb hts hin1 hown hK hP ((hR 24 (sI t)).mpr hb9) (by decide +kernel) dX9_owe_43 ?_
            refine lv_isub hx hb dX9_owe_46 ?_
            refine lv_icmp_le (tgt := 53) hx hb dX9_owe_47 (by decide) (fun c_47 => ?_) (fun c_47 => ?_)
            · refine lv_aload_n hx hb dX9_owe_53 rfl (lv_at hl 1 rfl) ?_
              refine lv_aload hx hb dX9_owe_54 (lv_at hl 0 rfl) ?_
              refine lv_iload_n hx hb dX9_owe_56 rfl (lv_at hl 3 rfl) ?_
              refine c_callv (ci := 9) (q := (RX9, TX9, 11)) (κ := 0) (i := 0) (As := [.ref (ad 24 (sI t)), .int q]) (rest := []) ⟨hx, hb, hml, hown, hts⟩ (ctX9_addDebt l D y ad x R qs nC nT hR (sI t) q ns se hb9 hns hse) (cwV 2 hts gX9_owe_X9_addDebt rfl rfl rfl (by decide +kernel) ⟨Nat.le_of_ble_eq_true rfl, Nat.le_of_ble_eq_true rfl⟩) ((hR 0 (0)).mpr Nat.zero_lt_one) (fun _ _ _ => ⟨_, rfl⟩) rfl hE hK hP hD hS hA rfl hl.1 rfl (Nat.le_of_ble_eq_true rfl) dX9_owe_57 ⟨Nat.zero_le _, Nat.zero_le _⟩ (fun x1 H locs hq hP hD hS => ?_)
              refine lv_aload hx hb dX9_owe_60 (lv_at hl 0 rfl) ?_
              refine cg_X1_owed (i := sI t) hx hb hts hin1 hown hK hP ((hR 24 (sI t)).mpr hb9) (by decide +kernel) dX9_owe_62 ?_
              exact c_reti hx hb hr hlocks hAe hK hP hD hS rfl dX9_owe_65 (⟨fun _ => ⟨by rw [hq, cAddD_owed], hq⟩, fun q9 => absurd (show okOwe9 x nC t q day from ⟨b9, c_13, c_21, c_29, c_35, c_47⟩) q9⟩)
            · refine lv_bipush (v := (-2)) hx hb dX9_owe_50 (by decide) ?_
              exact c_reti hx hb hr hlocks hAe hK hP hD hS rfl dX9_owe_52 (⟨fun q9 => absurd q9 (by simp [okOwe9, e_2, c_13, Int32.not_lt.mp c_13, c_21, Int32.not_lt.mpr c_21, c_29, Int32.not_lt.mp c_29, c_35, Int32.not_lt.mp c_35, c_47, Int32.not_le.mp c_47]), fun _ => ⟨rfl, rfl⟩⟩)
      · refine lv_bipush (v := (-2)) hx hb dX9_owe_24 (by decide) ?_
        exact c_reti hx hb hr hlocks hAe hK hP hD hS rfl dX9_owe_26 (⟨fun q9 => absurd q9 (by simp [okOwe9, e_2, c_13, Int32.not_lt.mp c_13, c_21, Int32.not_le.mp c_21]), fun _ => ⟨rfl, rfl⟩⟩)
def csAbout (x : cS) (nC nT : Nat) (t w : Int32) : Int32 := if isC nC t then (if w = 0 then x.1 24 (sI t) 1 else if w = 1 then x.1 24 (sI t) 2 else if w = 2 then x.1 24 (sI t) 3 else if w = 3 then (if x.1 24 (sI t) 4 = 0 then 0 else 1) else if w = 4 then x.1 24 (sI t) 5 else if w = 5 then zI (cSit x nT (sI t)) else if w = 6 then x.1 24 (sI t) 7 else if w = 7 then (if x.1 24 (sI t) 8 = 0 then 0 else 1) else if w = 8 then x.1 24 (sI t) 9 else if w = 9 then x.1 24 (sI t) 6 else -1) else -1
set_option maxHeartbeats 4000000 in
set_option maxRecDepth 100000 in
/-- about -/
theorem ctX9_about (l : Launch) (D : va_G) (y : Nat → ClassId) (ad : Nat → Nat → Nat) (x : cS) (R : List (Nat × Nat)) (qs : Nat → Nat × Nat) (nC nT : Nat) (hR : cHas R nC nT) (t w : Int32) (hn : x.1 0 0 7 = nI nC) (hn1 : nC ≤ 150) (hro : ∀ c, c < nC → x.2.2 8 0 c = some c) (hsz : x.1 6 0 2 = nI nT) (hT15 : nT ≤ 15) (hTx : ∀ j, j < nT → x.2.2 7 0 j = some (j + 2)) : cMi l yX9_about wsX9_about ({ frames := 2, cells := 0, slots := 0, locals := 46 }) D y ad x R qs [.ref (ad 0 0), .int t, .int w] (fun r x' => r = csAbout x nC nT t w ∧ x' = x) := by
  refine cMi_of (cc := cX9_about) (maxL := 4) (ret := (some .int)) (by decide) rfl (Nat.le_of_ble_eq_true rfl) ?_
  intro p e s m below meth c A ls hat hAe hl
  obtain ⟨hx, hb, hr, hml, hts, hown, hlocks, hK, hP, hD, hA, hE⟩ := hat
  have hown : s.vm.findClass RX9 = some m.cls := hown
  have hin1 : ∀ w ∈ wsX10, w ∈ wsX9_about := fun _ h9 => List.mem_cons_of_mem _ (List.mem_append_left _ (List.mem_append_left _ (List.mem_append_left _ (List.mem_append_right _ h9))))
  have hin9 : ∀ w ∈ wsX90, w ∈ wsX9_about := fun _ h9 => List.mem_cons_of_mem _ (List.mem_append_left _ (List.mem_append_left _ (List.mem_append_right _ h9)))
  have hin4 : ∀ w ∈ wsX40, w ∈ wsX9_about := fun _ h9 => List.mem_cons_of_mem _ (List.mem_append_left _ (List.mem_append_right _ h9))
  have hin6 : ∀ w ∈ wsX60, w ∈ wsX9_about := fun _ h9 => List.mem_cons_of_mem _ (List.mem_append_right _ h9)
  have hl : lv_has ls 4 [(0, .ref (ad 0 0)), (1, .int t), (2, .int w)] := hl
  have hS : va_S A s.heap s.heap [] := va_S.rf
  refine lv_aload_n hx hb dX9_about_0 rfl (lv_at hl 0 rfl) ?_
  refine lv_iload_n hx hb dX9_about_1 rfl (lv_at hl 1 rfl) ?_
  refine c_callep (ci := 9) (q := (RX9, TX9, 11)) (κ := 0) (i := 0) (As := [.int t]) (rest := []) ⟨hx, hb, hml, hown, hts⟩ (ctX9_citizenAt l D y ad x R qs nC nT hR (t) hn hn1 hro) (cwV 1 hts gX9_about_X9_citizenAt rfl rfl rfl (by decide +kernel) ⟨Nat.le_of_ble_eq_true rfl, Nat.le_of_ble_eq_true rfl⟩) ((hR 0 (0)).mpr Nat.zero_lt_one) (fun _ _ _ => ⟨_, rfl⟩) rfl hE hK hP hD hS hA rfl hl.1 rfl (Nat.le_of_ble_eq_true rfl) dX9_about_2 ⟨Nat.zero_le _, Nat.zero_le _⟩ (fun H locs hP hD hS => ?_)
  refine lv_re (fun e_2 => ?_) (fun c9 e_2 => ?_)
  · have b9 : isC nC (t) = false := citF_n e_2
    refine lv_astore_nN (lv' := [(3, .null), (0, .ref (ad 0 0)), (1, .int t), (2, .int w)]) hx hb dX9_about_5 rfl hl (by decide) rfl (fun ls hl => ?_)
    refine lv_aload_nN hx hb dX9_about_6 rfl (lv_at hl 0 rfl) ?_
    refine lv_ifnonnullN hx hb dX9_about_7 ?_
    refine lv_iconst (v := (-1)) hx hb dX9_about_10 (by decide) ?_
    exact c_reti hx hb hr hlocks hAe hK hP hD hS rfl dX9_about_11 (⟨by rw [csAbout, if_neg (by rw [b9]; decide)], rfl⟩)
  · obtain ⟨b9, hb9, eb9⟩ := citF_s hn1 e_2
    rw [eb9]
    refine lv_astore_n (lv' := [(3, .ref (ad 24 (sI t))), (0, .ref (ad 0 0)), (1, .int t), (2, .int w)]) hx hb dX9_about_5 rfl hl (by decide) rfl (fun ls hl => ?_)
    refine lv_aload_n hx hb dX9_about_6 rfl (lv_at hl 0 rfl) ?_
    refine lv_ifnonnull (tgt := 12) hx hb dX9_about_7 (by decide) ?_
    refine lv_iload_n hx hb dX9_about_12 rfl (lv_at hl 3 rfl) ?_
    refine lv_topi (fun sw_13 esw_13 => ?_)
    by_cases w0_13 : sw_13 = 0
    · subst w0_13
      refine lv_tableIn (tgt := 68) hx hb dX9_about_13 (by decide) (by decide) rfl (by decide) ?_
      refine lv_aload_n hx hb dX9_about_68 rfl (lv_at hl 0 rfl) ?_
      refine cg_X1_tribe (i := sI t) hx hb hts hin1 hown hK hP ((hR 24 (sI t)).mpr hb9) (by decide +kernel) dX9_about_69 ?_
      exact c_reti hx hb hr hlocks hAe hK hP hD hS rfl dX9_about_72 (⟨by rw [csAbout, if_pos b9]; simp [← esw_13], rfl⟩)
    by_cases w1_13 : sw_13 = 1
    · subst w1_13
      refine lv_tableIn (tgt := 73) hx hb dX9_about_13 (by decide) (by decide) rfl (by decide) ?_
      refine lv_aload_n hx hb dX9_about_73 rfl (lv_at hl 0 rfl) ?_
      refine cg_X1_letter (i := sI t) hx hb hts hin1 hown hK hP ((hR 24 (sI t)).mpr hb9) (by decide +kernel) dX9_about_74 ?_
      exact c_reti hx hb hr hlocks hAe hK hP hD hS rfl dX9_about_77 (⟨by rw [csAbout, if_pos b9]; simp [← esw_13], rfl⟩)
    by_cases w2_13 : sw_13 = 2
    · subst w2_13
      refine lv_tableIn (tgt := 78) hx hb dX9_about_13 (by decide) (by decide) rfl (by decide) ?_
      refine lv_aload_n hx hb dX9_about_78 rfl (lv_at hl 0 rfl) ?_
      refine cg_X1_born (i := sI t) hx hb hts hin1 hown hK hP ((hR 24 (sI t)).mpr hb9) (by decide +kernel) dX9_about_79 ?_
      exact c_reti hx hb hr hlocks hAe hK hP hD hS rfl dX9_about_82 (⟨by rw [csAbout, if_pos b9]; simp [← esw_13], rfl⟩)
    by_cases w3_13 : sw_13 = 3
    · subst w3_13
      refine lv_tableIn (tgt := 83) hx hb dX9_about_13 (by decide) (by decide) rfl (by decide) ?_
      refine lv_aload_n hx hb dX9_about_83 rfl (lv_at hl 0 rfl) ?_
      refine cg_X1_sworn (i := sI t) hx hb hts hin1 hown hK hP ((hR 24 (sI t)).mpr hb9) (by decide +kernel) dX9_about_84 ?_
      refine lv_if_eq (tgt := 94) hx hb dX9_about_87 (by decide) (fun c_87 => ?_) (fun c_87 => ?_)
      · refine lv_iconst (v := 0) hx hb dX9_about_94 (by decide) ?_
        exact c_reti hx hb hr hlocks hAe hK hP hD hS rfl dX9_about_95 (⟨by rw [csAbout, if_pos b9]; simp [← esw_13, c_87], rfl⟩)
      · refine lv_iconst (v := 1) hx hb dX9_about_90 (by decide) ?_
        refine lv_goto (tgt := 95) hx hb dX9_about_91 (by decide) ?_
        exact c_reti hx hb hr hlocks hAe hK hP hD hS rfl dX9_about_95 (⟨by rw [csAbout, if_pos b9]; simp [← esw_13, c_87], rfl⟩)
    by_cases w4_13 : sw_13 = 4
    · subst w4_13
      refine lv_tableIn (tgt := 96) hx hb dX9_about_13 (by decide) (by decide) rfl (by decide) ?_
      refine lv_aload_n hx hb dX9_about_96 rfl (lv_at hl 0 rfl) ?_
      refine cg_X1_owed (i := sI t) hx hb hts hin1 hown hK hP ((hR 24 (sI t)).mpr hb9) (by decide +kernel) dX9_about_97 ?_
      exact c_reti hx hb hr hlocks hAe hK hP hD hS rfl dX9_about_100 (⟨by rw [csAbout, if_pos b9]; simp [← esw_13], rfl⟩)
    by_cases w5_13 : sw_13 = 5
    · subst w5_13
      refine lv_tableIn (tgt := 101) hx hb dX9_about_13 (by decide) (by decide) rfl (by decide) ?_
      refine lv_aload_n hx hb dX9_about_101 rfl (lv_at hl 1 rfl) ?_
      refine lv_aload_n hx hb dX9_about_102 rfl (lv_at hl 0 rfl) ?_
      refine c_callip (ci := 9) (q := (RX9, TX9, 11)) (κ := 0) (i := 0) (As := [.ref (ad 24 (sI t))]) (rest := []) ⟨hx, hb, hml, hown, hts⟩ (ctX9_maySit l D y ad x R qs nC nT hR (sI t) hb9 hsz hT15 hTx) (cwV 1 hts gX9_about_X9_maySit rfl rfl rfl (by decide +kernel) ⟨Nat.le_of_ble_eq_true rfl, Nat.le_of_ble_eq_true rfl⟩) ((hR 0 (0)).mpr Nat.zero_lt_one) (fun _ _ _ => ⟨_, rfl⟩) rfl hE hK hP hD hS hA rfl hl.1 rfl (Nat.le_of_ble_eq_true rfl) dX9_about_103 ⟨Nat.zero_le _, Nat.zero_le _⟩ (fun H locs hP hD hS => ?_)
      refine lv_if_eq (tgt := 113) hx hb dX9_about_106 (by decide) (fun c_106 => ?_) (fun c_106 => ?_)
      · have b106 : cSit x nT (sI t) = false := (zI_eq _).mp c_106
        refine lv_iconst (v := 0) hx hb dX9_about_113 (by decide) ?_
        exact c_reti hx hb hr hlocks hAe hK hP hD hS rfl dX9_about_114 (⟨by rw [csAbout, if_pos b9]; simp [← esw_13, b106, zI], rfl⟩)
      · have b106 : cSit x nT (sI t) = true := (zI_ne _).mp c_106
        refine lv_iconst (v := 1) hx hb dX9_about_109 (by decide) ?_
        refine lv_goto (tgt := 114) hx hb dX9_about_110 (by decide) ?_
        exact c_reti hx hb hr hlocks hAe hK hP hD hS rfl dX9_about_114 (⟨by rw [csAbout, if_pos b9]; simp [← esw_13, b106, zI], rfl⟩)
    by_cases w6_13 : sw_13 = 6
    · subst w6_13
      refine lv_tableIn (tgt := 115) hx hb dX9_about_13 (by decide) (by decide) rfl (by decide) ?_
      refine lv_aload_n hx hb dX9_about_115 rfl (lv_at hl 0 rfl) ?_
      refine cg_X1_place (i := sI t) hx hb hts hin1 hown hK hP ((hR 24 (sI t)).mpr hb9) (by decide +kernel) dX9_about_116 ?_
      exact c_reti hx hb hr hlocks hAe hK hP hD hS rfl dX9_about_119 (⟨by rw [csAbout, if_pos b9]; simp [← esw_13], rfl⟩)
    by_cases w7_13 : sw_13 = 7
    · subst w7_13
      refine lv_tableIn (tgt := 120) hx hb dX9_about_13 (by decide) (by decide) rfl (by decide) ?_
      refine lv_aload_n hx hb dX9_about_120 rfl (lv_at hl 0 rfl) ?_
      refine cg_X1_chosen (i := sI t) hx hb hts hin1 hown hK hP ((hR 24 (sI t)).mpr hb9) (by decide +kernel) dX9_about_121 ?_
      refine lv_if_eq (tgt := 131) hx hb dX9_about_124 (by decide) (fun c_124 => ?_) (fun c_124 => ?_)
      · refine lv_iconst (v := 0) hx hb dX9_about_131 (by decide) ?_
        exact c_reti hx hb hr hlocks hAe hK hP hD hS rfl dX9_about_132 (⟨by rw [csAbout, if_pos b9]; simp [← esw_13, c_124], rfl⟩)
      · refine lv_iconst (v := 1) hx hb dX9_about_127 (by decide) ?_
        refine lv_goto (tgt := 132) hx hb dX9_about_128 (by decide) ?_
        exact c_reti hx hb hr hlocks hAe hK hP hD hS rfl dX9_about_132 (⟨by rw [csAbout, if_pos b9]; simp [← esw_13, c_124], rfl⟩)
    by_cases w8_13 : sw_13 = 8
    · subst w8_13
      refine lv_tableIn (tgt := 133) hx hb dX9_about_13 (by decide) (by decide) rfl (by decide) ?_
      refine lv_aload_n hx hb dX9_about_133 rfl (lv_at hl 0 rfl) ?_
      refine cg_X1_court (i := sI t) hx hb hts hin1 hown hK hP ((hR 24 (sI t)).mpr hb9) (by decide +kernel) dX9_about_134 ?_
      exact c_reti hx hb hr hlocks hAe hK hP hD hS rfl dX9_about_137 (⟨by rw [csAbout, if_pos b9]; simp [← esw_13], rfl⟩)
    by_cases w9_13 : sw_13 = 9
    · subst w9_13
      refine lv_tableIn (tgt := 138) hx hb dX9_about_13 (by decide) (by decide) rfl (by decide) ?_
      refine lv_aload_n hx hb dX9_about_138 rfl (lv_at hl 0 rfl) ?_
      refine cg_X1_earned (i := sI t) hx hb hts hin1 hown hK hP ((hR 24 (sI t)).mpr hb9) (by decide +kernel) dX9_about_139 ?_
      exact c_reti hx hb hr hlocks hAe hK hP hD hS rfl dX9_about_142 (⟨by rw [csAbout, if_pos b9]; simp [← esw_13], rfl⟩)
    refine lv_tableOut (tgt := 143) hx hb dX9_about_13 (by have q0 := tI sw_13 0 0 rfl w0_13; have q1 := tI sw_13 1 1 rfl w1_13; have q2 := tI sw_13 2 2 rfl w2_13; have q3 := tI sw_13 3 3 rfl w3_13; have q4 := tI sw_13 4 4 rfl w4_13; have q5 := tI sw_13 5 5 rfl w5_13; have q6 := tI sw_13 6 6 rfl w6_13; have q7 := tI sw_13 7 7 rfl w7_13; have q8 := tI sw_13 8 8 rfl w8_13; have q9 := tI sw_13 9 9 rfl w9_13; omega) (by decide) ?_
    refine lv_iconst (v := (-1)) hx hb dX9_about_143 (by decide) ?_
    exact c_reti hx hb hr hlocks hAe hK hP hD hS rfl dX9_about_144 (⟨by simp only [csAbout, b9, if_true, w0_13, w1_13, w2_13, w3_13, w4_13, w5_13, w6_13, w7_13, w8_13, w9_13, if_false, ← esw_13], rfl⟩)
def cShA (x : cS) : Nat → cS
  | 0 => x
  | k + 1 => cShut (cShA x k) k
def csNow (x : cS) (cm : Nat → Nat) (a : Nat) (day : Int32) : Int32 × cS := if ¬ day ≤ x.1 0 0 8 ∧ day ≤ 20000 then (day, cShA (cClear (cI x 0 0 8 day) cm a) 5) else (-2, x)
set_option maxHeartbeats 4000000 in
set_option maxRecDepth 100000 in
/-- now -/
theorem ctX9_now (l : Launch) (D : va_G) (y : Nat → ClassId) (ad : Nat → Nat → Nat) (x : cS) (R : List (Nat × Nat)) (qs : Nat → Nat × Nat) (nC nT : Nat) (hR : cHas R nC nT) (day : Int32) (a : Nat) (cm : Nat → Nat) (ha : x.1 9 0 4 = nI a) (ha1 : a ≤ 150) (hcm : ∀ i, i < a → x.2.2 10 0 i = some (cm i) ∧ cm i < nC) : cMi l yX9_now wsX9_now ({ frames := 2, cells := 0, slots := 0, locals := 45 }) D y ad x R qs [.ref (ad 0 0), .int day] (fun r x' => (r, x') = csNow x cm a day) := by
  refine cMi_of (cc := cX9_now) (maxL := 4) (ret := (some .int)) (by decide) rfl (Nat.le_of_ble_eq_true rfl) ?_
  intro p e s m below meth c A ls hat hAe hl
  obtain ⟨hx, hb, hr, hml, hts, hown, hlocks, hK, hP, hD, hA, hE⟩ := hat
  have hown : s.vm.findClass RX9 = some m.cls := hown
  have hin9 : ∀ w ∈ wsX90, w ∈ wsX9_now := fun _ h9 => List.mem_cons_of_mem _ (List.mem_append_left _ (List.mem_append_left _ (List.mem_append_left _ (List.mem_append_left _ (List.mem_append_right _ h9)))))
  have hin3 : ∀ w ∈ wsX30, w ∈ wsX9_now := fun _ h9 => List.mem_cons_of_mem _ (List.mem_append_left _ (List.mem_append_left _ (List.mem_append_left _ (List.mem_append_right _ h9))))
  have hin1 : ∀ w ∈ wsX10, w ∈ wsX9_now := fun _ h9 => List.mem_cons_of_mem _ (List.mem_append_left _ (List.mem_append_left _ (List.mem_append_right _ h9)))
  have hin2 : ∀ w ∈ wsX20, w ∈ wsX9_now := fun _ h9 => List.mem_cons_of_mem _ (List.mem_append_left _ (List.mem_append_right _ h9))
  have hin7 : ∀ w ∈ wsX70, w ∈ wsX9_now := fun _ h9 => List.mem_cons_of_mem _ (List.mem_append_right _ h9)
  have hl : lv_has ls 4 [(0, .ref (ad 0 0)), (1, .int day)] := hl
  have hS : va_S A s.heap s.heap [] := va_S.rf
  refine lv_iload_n hx hb dX9_now_0 rfl (lv_at hl 1 rfl) ?_
  refine lv_aload_n hx hb dX9_now_1 rfl (lv_at hl 0 rfl) ?_
  refine cg_X9_clock (i := 0) hx hb hts hin9 hown hK hP ((hR 0 (0)).mpr Nat.zero_lt_one) (by decide +kernel) dX9_now_2 ?_
  refine lv_icmp_le (tgt := 15) hx hb dX9_now_5 (by decide) (fun c_5 => ?_) (fun c_5 => ?_)
  · refine lv_bipush (v := (-2)) hx hb dX9_now_15 (by decide) ?_
    exact c_reti hx hb hr hlocks hAe hK hP hD hS rfl dX9_now_17 (by rw [csNow, if_neg (by simp only [not_and]; first | exact fun q9 => absurd c_5 q9 | exact fun _ => c_12)])
  · refine lv_iload_n hx hb dX9_now_8 rfl (lv_at hl 1 rfl) ?_
    refine lv_sipush (v := 20000) hx hb dX9_now_9 (by decide) ?_
    refine lv_icmp_le (tgt := 18) hx hb dX9_now_12 (by decide) (fun c_12 => ?_) (fun c_12 => ?_)
    · refine lv_aload_n hx hb dX9_now_18 rfl (lv_at hl 0 rfl) ?_
      refine lv_iload_n hx hb dX9_now_19 rfl (lv_at hl 1 rfl) ?_
      refine cp_X9_clock (i := 0) hx hb hts hin9 hown hK hP hD hS ((hR 0 (0)).mpr Nat.zero_lt_one) (by decide +kernel) dX9_now_20 (fun H locs hP hD hS => ?_)
      refine lv_aload_n hx hb dX9_now_23 rfl (lv_at hl 0 rfl) ?_
      refine cg_X9_dawn (i := 0) hx hb hts hin9 hown hK hP ((hR 0 (0)).mpr Nat.zero_lt_one) (by decide +kernel) dX9_now_24 ?_
      refine c_callv (ci := 3) (q := (RX3, TX3, 7)) (κ := 9) (i := 0) (As := []) (rest := []) ⟨hx, hb, hml, hown, hts⟩ (ctX3_clear l D y ad (cI x 0 0 8 day) R qs nC nT hR a cm ha ha1 hcm) (cwV 0 hts gX9_now_X3_clear rfl rfl rfl (by decide +kernel) ⟨Nat.le_of_ble_eq_true rfl, Nat.le_of_ble_eq_true rfl⟩) ((hR 9 (0)).mpr Nat.zero_lt_one) (fun _ _ _ => ⟨_, rfl⟩) rfl hE hK hP hD hS hA rfl hl.1 rfl (Nat.le_of_ble_eq_true rfl) dX9_now_27 ⟨Nat.zero_le _, Nat.zero_le _⟩ (fun x27 H locs h27 hP hD hS => ?_)
      refine lv_iconst (v := 0) hx hb dX9_now_30 (by decide) ?_
      refine lv_istore_n (lv' := [(2, .int 0), (0, .ref (ad 0 0)), (1, .int day)]) hx hb dX9_now_31 rfl hl (by decide) rfl (fun ls hl => ?_)
      have lp_32 : ∀ (n_32 : Nat) (k : Nat) (u : cS) (x2 : Int32), (k ≤ 5) → (5 + 1 ≤ k + n_32) → (x2 = nI k) → (u = cShA x27 k) → ∀ (H : Heap) (locs : List Loc), va_P D vwCl (cW ad y u R) H → va_D A (cW ad y u R) → va_S A s.heap H locs → ∀ (ls : Array Slot), lv_has ls 4 [(0, .ref (ad 0 0)), (1, .int day), (2, .int x2)] → W p l e (headSpec wsX9_now ({ frames := 2, cells := 0, slots := 0, locals := 45 })).room s m ([.ref (ad 0 0), .int day] : List Value).toArray below meth c H locs 0 0 (MQ below (va_Qi (fun r x' => (r, x') = csNow x cm a day) (cEnd D y ad R s.heap.size) A) ([.ref (ad 0 0), .int day] : List Value).toArray s 0 0 A) (F0 m 32 ls []) := by
        intro n_32
        induction n_32 with
        | zero =>
          intro k u x2 hk0 hf ex2 hu
          exact absurd hf (by omega)
        | succ n_32 ih_32 =>
          intro k u x2 hk0 hf ex2 hu H locs hP hD hS ls hl
          refine lv_iload_n hx hb dX9_now_32 rfl (lv_at hl 2 rfl) ?_
          refine lv_iconst (v := 5) hx hb dX9_now_33 (by decide) ?_
          refine lv_icmp_ge (tgt := 57) hx hb dX9_now_34 (by decide) (fun c_34 => ?_) (fun c_34 => ?_)
          · have hk5 : k = 5 := by rw [ex2] at c_34; have := (nI_leI (a := 5) (by omega) (by omega)).mp c_34; omega
            refine lv_iload_n hx hb dX9_now_57 rfl (lv_at hl 1 rfl) ?_
            exact c_reti hx hb hr hlocks hAe hK hP hD hS rfl dX9_now_58 (by rw [csNow, if_pos ⟨c_5, c_12⟩, hu, hk5, h27])
          · have hk5 : k < 5 := by rw [ex2] at c_34; exact Nat.not_le.mp (fun q9 => c_34 (nI_le (a := 5) q9 (by omega)))
            have hcr : crtF x2 = some k := by rw [crtF, if_pos ((inR_k 5 (hi := 4) rfl (by omega)).mpr ⟨k, hk5, ex2⟩), ex2]; exact congrArg some (nI_clamp (by omega))
            refine lv_aload_n hx hb dX9_now_37 rfl (lv_at hl 0 rfl) ?_
            refine lv_iload_n hx hb dX9_now_38 rfl (lv_at hl 2 rfl) ?_
            refine c_callep (ci := 9) (q := (RX9, TX9, 11)) (κ := 0) (i := 0) (As := [.int x2]) (rest := []) ⟨hx, hb, hml, hown, hts⟩ (ctX9_courtAt l D y ad u R qs nC nT hR x2) (cwV 1 hts gX9_now_X9_courtAt rfl rfl rfl (by decide +kernel) ⟨Nat.le_of_ble_eq_true rfl, Nat.le_of_ble_eq_true rfl⟩) ((hR 0 (0)).mpr Nat.zero_lt_one) (fun _ _ _ => ⟨_, rfl⟩) rfl hE hK hP hD hS hA rfl hl.1 rfl (Nat.le_of_ble_eq_true rfl) dX9_now_39 ⟨Nat.zero_le _, Nat.zero_le _⟩ (fun H locs hP hD hS => ?_)
            refine lv_re (fun e9 => absurd (e9.symm.trans (hcr)) (by simp)) (fun j9 e9 => ?_)
            rw [show j9 = k from Option.some.inj (e9.symm.trans (hcr))]
            refine lv_astore_n (lv' := [(3, .ref (ad 18 k)), (0, .ref (ad 0 0)), (1, .int day), (2, .int x2)]) hx hb dX9_now_42 rfl hl (by decide) rfl (fun ls hl => ?_)
            refine lv_aload_n hx hb dX9_now_43 rfl (lv_at hl 0 rfl) ?_
            refine lv_ifnull hx hb dX9_now_44 ?_
            refine lv_aload_n hx hb dX9_now_47 rfl (lv_at hl 0 rfl) ?_
            refine c_callv (ci := 2) (q := (RX2, TX2, 4)) (κ := 18) (i := k) (As := []) (rest := []) ⟨hx, hb, hml, hown, hts⟩ (ctX2_shut l D y ad u R qs nC nT hR k hk5) (cwV 0 hts gX9_now_X2_shut rfl rfl rfl (by decide +kernel) ⟨Nat.le_of_ble_eq_true rfl, Nat.le_of_ble_eq_true rfl⟩) ((hR 18 (k)).mpr hk5) (fun _ _ _ => ⟨_, rfl⟩) rfl hE hK hP hD hS hA rfl hl.1 rfl (Nat.le_of_ble_eq_true rfl) dX9_now_48 ⟨Nat.zero_le _, Nat.zero_le _⟩ (fun x43 H locs h43 hP hD hS => ?_)
            obtain ⟨x2_1, ex2_1⟩ : ∃ z : Int32, z = x2 + 1 := ⟨_, rfl⟩
            refine lv_iinc (v := x2_1) (lv' := [(2, .int x2_1), (3, .ref (ad 18 k)), (0, .ref (ad 0 0)), (1, .int day)]) hx hb dX9_now_51 hl (k := 3) rfl (by rw [ex2_1]; rfl) (by decide) rfl (fun ls hl => ?_)
            refine lv_goto (tgt := 32) hx hb dX9_now_54 (by decide) ?_
            exact ih_32 (k + 1) _ _ (by omega) (by omega) (by rw [ex2_1, ex2]; exact nI_1 _) (by rw [h43, hu, cShA]) _ _ hP hD hS _ (lv_sub hl [2, 3, 0] rfl)
      exact lp_32 6 0 _ _ (Nat.zero_le _) (by omega) rfl rfl _ _ hP hD hS _ (lv_sub hl [1, 2, 0] rfl)
    · refine lv_bipush (v := (-2)) hx hb dX9_now_15 (by decide) ?_
      exact c_reti hx hb hr hlocks hAe hK hP hD hS rfl dX9_now_17 (by rw [csNow, if_neg (by simp only [not_and]; first | exact fun q9 => absurd c_5 q9 | exact fun _ => c_12)])
def csCome (x : cS) (nC nT a : Nat) (tb lt : Nat → Nat) (t : Int32) : Int32 × cS := if isC nC t then (if cSit x nT (sI t) = true ∧ x.1 24 (sI t) 7 = -1 ∧ x.1 12 0 (tb (sI t)) = 0 then (x.1 11 0 (5 * tb (sI t) + lt (sI t)) + 1, cAdm x a (sI t) (5 * tb (sI t) + lt (sI t))) else (-4, x)) else (-2, x)
set_option maxHeartbeats 4000000 in
set_option maxRecDepth 100000 in
/-- come -/
theorem ctX9_come (l : Launch) (D : va_G) (y : Nat → ClassId) (ad : Nat → Nat → Nat) (x : cS) (R : List (Nat × Nat)) (qs : Nat → Nat × Nat) (nC nT : Nat) (hR : cHas R nC nT) (t : Int32) (a : Nat) (tb lt : Nat → Nat) (hn : x.1 0 0 7 = nI nC) (hn1 : nC ≤ 150) (hro : ∀ c, c < nC → x.2.2 8 0 c = some c) (hsz : x.1 6 0 2 = nI nT) (hT15 : nT ≤ 15) (hTx : ∀ j, j < nT → x.2.2 7 0 j = some (j + 2)) (ha : x.1 9 0 4 = nI a) (ha9 : ∀ c, c < nC → x.1 24 c 7 = -1 → a < 150) (htl : ∀ c, c < nC → x.1 24 c 1 = nI (tb c) ∧ tb c < 10 ∧ x.1 24 c 2 = nI (lt c) ∧ lt c < 5) : cMi l yX9_come wsX9_come ({ frames := 2, cells := 0, slots := 0, locals := 46 }) D y ad x R qs [.ref (ad 0 0), .int t] (fun r x' => (r, x') = csCome x nC nT a tb lt t) := by
  refine cMi_of (cc := cX9_come) (maxL := 3) (ret := (some .int)) (by decide) rfl (Nat.le_of_ble_eq_true rfl) ?_
  intro p e s m below meth c A ls hat hAe hl
  obtain ⟨hx, hb, hr, hml, hts, hown, hlocks, hK, hP, hD, hA, hE⟩ := hat
  have hown : s.vm.findClass RX9 = some m.cls := hown
  have hin1 : ∀ w ∈ wsX10, w ∈ wsX9_come := fun _ h9 => List.mem_cons_of_mem _ (List.mem_append_left _ (List.mem_append_left _ (List.mem_append_left _ (List.mem_append_left _ (List.mem_append_right _ h9)))))
  have hin9 : ∀ w ∈ wsX90, w ∈ wsX9_come := fun _ h9 => List.mem_cons_of_mem _ (List.mem_append_left _ (List.mem_append_left _ (List.mem_append_left _ (List.mem_append_right _ h9))))
  have hin4 : ∀ w ∈ wsX40, w ∈ wsX9_come := fun _ h9 => List.mem_cons_of_mem _ (List.mem_append_left _ (List.mem_append_left _ (List.mem_append_right _ h9)))
  have hin6 : ∀ w ∈ wsX60, w ∈ wsX9_come := fun _ h9 => List.mem_cons_of_mem _ (List.mem_append_left _ (List.mem_append_right _ h9))
  have hin3 : ∀ w ∈ wsX30, w ∈ wsX9_come := fun _ h9 => List.mem_cons_of_mem _ (List.mem_append_right _ h9)
  have hl : lv_has ls 3 [(0, .ref (ad 0 0)), (1, .int t)] := hl
  have hS : va_S A s.heap s.heap [] := va_S.rf
  refine lv_aload_n hx hb dX9_come_0 rfl (lv_at hl 0 rfl) ?_
  refine lv_iload_n hx hb dX9_come_1 rfl (lv_at hl 1 rfl) ?_
  refine c_callep (ci := 9) (q := (RX9, TX9, 11)) (κ := 0) (i := 0) (As := [.int t]) (rest := []) ⟨hx, hb, hml, hown, hts⟩ (ctX9_citizenAt l D y ad x R qs nC nT hR (t) hn hn1 hro) (cwV 1 hts gX9_come_X9_citizenAt rfl rfl rfl (by decide +kernel) ⟨Nat.le_of_ble_eq_true rfl, Nat.le_of_ble_eq_true rfl⟩) ((hR 0 (0)).mpr Nat.zero_lt_one) (fun _ _ _ => ⟨_, rfl⟩) rfl hE hK hP hD hS hA rfl hl.1 rfl (Nat.le_of_ble_eq_true rfl) dX9_come_2 ⟨Nat.zero_le _, Nat.zero_le _⟩ (fun H locs hP hD hS => ?_)
  refine lv_re (fun e_2 => ?_) (fun c9 e_2 => ?_)
  · have b9 : isC nC (t) = false := citF_n e_2
    refine lv_astore_nN (lv' := [(2, .null), (0, .ref (ad 0 0)), (1, .int t)]) hx hb dX9_come_5 rfl hl (by decide) rfl (fun ls hl => ?_)
    refine lv_aload_nN hx hb dX9_come_6 rfl (lv_at hl 0 rfl) ?_
    refine lv_ifnonnullN hx hb dX9_come_7 ?_
    refine lv_bipush (v := (-2)) hx hb dX9_come_10 (by decide) ?_
    exact c_reti hx hb hr hlocks hAe hK hP hD hS rfl dX9_come_12 (by rw [csCome, if_neg (by rw [b9]; decide)])
  · obtain ⟨b9, hb9, eb9⟩ := citF_s hn1 e_2
    rw [eb9]
    obtain ⟨ht1, ht2, ht3, ht4⟩ := htl _ hb9
    refine lv_astore_n (lv' := [(2, .ref (ad 24 (sI t))), (0, .ref (ad 0 0)), (1, .int t)]) hx hb dX9_come_5 rfl hl (by decide) rfl (fun ls hl => ?_)
    refine lv_aload_n hx hb dX9_come_6 rfl (lv_at hl 0 rfl) ?_
    refine lv_ifnonnull (tgt := 13) hx hb dX9_come_7 (by decide) ?_
    refine lv_aload_n hx hb dX9_come_13 rfl (lv_at hl 1 rfl) ?_
    refine lv_aload_n hx hb dX9_come_14 rfl (lv_at hl 0 rfl) ?_
    refine c_callip (ci := 9) (q := (RX9, TX9, 11)) (κ := 0) (i := 0) (As := [.ref (ad 24 (sI t))]) (rest := []) ⟨hx, hb, hml, hown, hts⟩ (ctX9_maySit l D y ad x R qs nC nT hR (sI t) hb9 hsz hT15 hTx) (cwV 1 hts gX9_come_X9_maySit rfl rfl rfl (by decide +kernel) ⟨Nat.le_of_ble_eq_true rfl, Nat.le_of_ble_eq_true rfl⟩) ((hR 0 (0)).mpr Nat.zero_lt_one) (fun _ _ _ => ⟨_, rfl⟩) rfl hE hK hP hD hS hA rfl hl.1 rfl (Nat.le_of_ble_eq_true rfl) dX9_come_15 ⟨Nat.zero_le _, Nat.zero_le _⟩ (fun H locs hP hD hS => ?_)
    refine lv_if_eq (tgt := 43) hx hb dX9_come_18 (by decide) (fun c_18 => ?_) (fun c_18 => ?_)
    · have b18 : cSit x nT (sI t) = false := (zI_eq _).mp c_18
      refine lv_bipush (v := (-4)) hx hb dX9_come_43 (by decide) ?_
      exact c_reti hx hb hr hlocks hAe hK hP hD hS rfl dX9_come_45 (by rw [csCome, if_pos b9, if_neg (by simp [b18])])
    · have b18 : cSit x nT (sI t) = true := (zI_ne _).mp c_18
      refine lv_aload_n hx hb dX9_come_21 rfl (lv_at hl 0 rfl) ?_
      refine cg_X1_place (i := sI t) hx hb hts hin1 hown hK hP ((hR 24 (sI t)).mpr hb9) (by decide +kernel) dX9_come_22 ?_
      refine lv_iconst (v := (-1)) hx hb dX9_come_25 (by decide) ?_
      refine lv_icmp_ne (tgt := 43) hx hb dX9_come_26 (by decide) (fun c_26 => ?_) (fun c_26 => ?_)
      · refine lv_bipush (v := (-4)) hx hb dX9_come_43 (by decide) ?_
        exact c_reti hx hb hr hlocks hAe hK hP hD hS rfl dX9_come_45 (by rw [csCome, if_pos b9, if_neg (by simp [b18, c_26])])
      · refine lv_aload_n hx hb dX9_come_29 rfl (lv_at hl 1 rfl) ?_
        refine cg_X9_dawn (i := 0) hx hb hts hin9 hown hK hP ((hR 0 (0)).mpr Nat.zero_lt_one) (by decide +kernel) dX9_come_30 ?_
        refine lv_aload_n hx hb dX9_come_33 rfl (lv_at hl 0 rfl) ?_
        refine cg_X1_tribe (i := sI t) hx hb hts hin1 hown hK hP ((hR 24 (sI t)).mpr hb9) (by decide +kernel) dX9_come_34 ?_
        refine c_callip (ci := 3) (q := (RX3, TX3, 7)) (κ := 9) (i := 0) (As := [.int (x.1 24 (sI t) 1)]) (rest := []) ⟨hx, hb, hml, hown, hts⟩ (ctX3_hasDrawn l D y ad x R qs nC nT hR (x.1 24 (sI t) 1) (tb (sI t)) ht1 ht2) (cwV 1 hts gX9_come_X3_hasDrawn rfl rfl rfl (by decide +kernel) ⟨Nat.le_of_ble_eq_true rfl, Nat.le_of_ble_eq_true rfl⟩) ((hR 9 (0)).mpr Nat.zero_lt_one) (fun _ _ _ => ⟨_, rfl⟩) rfl hE hK hP hD hS hA rfl hl.1 rfl (Nat.le_of_ble_eq_true rfl) dX9_come_37 ⟨Nat.zero_le _, Nat.zero_le _⟩ (fun H locs hP hD hS => ?_)
        refine lv_if_eq (tgt := 46) hx hb dX9_come_40 (by decide) (fun c_40 => ?_) (fun c_40 => ?_)
        · have b40 : (!decide (x.1 12 0 (tb (sI t)) = 0)) = false := (zI_eq _).mp c_40
          have h40 : x.1 12 0 (tb (sI t)) = 0 := by simpa using b40
          refine lv_aload_n hx hb dX9_come_46 rfl (lv_at hl 1 rfl) ?_
          refine cg_X9_dawn (i := 0) hx hb hts hin9 hown hK hP ((hR 0 (0)).mpr Nat.zero_lt_one) (by decide +kernel) dX9_come_47 ?_
          refine lv_aload_n hx hb dX9_come_50 rfl (lv_at hl 0 rfl) ?_
          refine c_calli (ci := 3) (q := (RX3, TX3, 7)) (κ := 9) (i := 0) (As := [.ref (ad 24 (sI t))]) (rest := []) ⟨hx, hb, hml, hown, hts⟩ (ctX3_admit l D y ad x R qs nC nT hR a (sI t) (tb (sI t)) (lt (sI t)) ha (ha9 _ hb9 c_26) hb9 ht1 ht2 ht3 ht4) (cwV 1 hts gX9_come_X3_admit rfl rfl rfl (by decide +kernel) ⟨Nat.le_of_ble_eq_true rfl, Nat.le_of_ble_eq_true rfl⟩) ((hR 9 (0)).mpr Nat.zero_lt_one) (fun _ _ _ => ⟨_, rfl⟩) rfl hE hK hP hD hS hA rfl hl.1 rfl (Nat.le_of_ble_eq_true rfl) dX9_come_51 ⟨Nat.zero_le _, Nat.zero_le _⟩ (fun r_51 x1 H locs hq hP hD hS => ?_)
          exact c_reti hx hb hr hlocks hAe hK hP hD hS rfl dX9_come_54 (by rw [csCome, if_pos b9, if_pos ⟨b18, c_26, h40⟩, hq.1, hq.2])
        · have b40 : (!decide (x.1 12 0 (tb (sI t)) = 0)) = true := (zI_ne _).mp c_40
          have h40 : ¬ x.1 12 0 (tb (sI t)) = 0 := by simpa using b40
          refine lv_bipush (v := (-4)) hx hb dX9_come_43 (by decide) ?_
          exact c_reti hx hb hr hlocks hAe hK hP hD hS rfl dX9_come_45 (by rw [csCome, if_pos b9, if_neg (by simp [b18, c_26, h40])])
def csRows (co : Nat → Nat) (t : Int32) : Int32 := if isT t then nI (cMn co (sI t) 5) else -2
set_option maxHeartbeats 4000000 in
set_option maxRecDepth 100000 in
/-- rows -/
theorem ctX9_rows (l : Launch) (D : va_G) (y : Nat → ClassId) (ad : Nat → Nat → Nat) (x : cS) (R : List (Nat × Nat)) (qs : Nat → Nat × Nat) (nC nT : Nat) (hR : cHas R nC nT) (t : Int32) (co : Nat → Nat) (hco : ∀ j, j < 50 → x.1 11 0 j = nI (co j) ∧ co j ≤ 150) : cMi l yX9_rows wsX9_rows ({ frames := 2, cells := 0, slots := 0, locals := 50 }) D y ad x R qs [.ref (ad 0 0), .int t] (fun r x' => r = csRows co t ∧ x' = x) := by
  refine cMi_of (cc := cX9_rows) (maxL := 2) (ret := (some .int)) (by decide) rfl (Nat.le_of_ble_eq_true rfl) ?_
  intro p e s m below meth c A ls hat hAe hl
  obtain ⟨hx, hb, hr, hml, hts, hown, hlocks, hK, hP, hD, hA, hE⟩ := hat
  have hown : s.vm.findClass RX9 = some m.cls := hown
  have hin9 : ∀ w ∈ wsX90, w ∈ wsX9_rows := fun _ h9 => List.mem_cons_of_mem _ (List.mem_append_left _ (List.mem_append_right _ h9))
  have hin3 : ∀ w ∈ wsX30, w ∈ wsX9_rows := fun _ h9 => List.mem_cons_of_mem _ (List.mem_append_right _ h9)
  have hl : lv_has ls 2 [(0, .ref (ad 0 0)), (1, .int t)] := hl
  have hS : va_S A s.heap s.heap [] := va_S.rf
  refine lv_iload_n hx hb dX9_rows_0 rfl (lv_at hl 1 rfl) ?_
  refine s_calli (As := [.int t]) (rest := []) ⟨hx, hb, hml, hown, hts⟩ (ctX9_isTribe l t) (va_cwS 1 hts gX9_rows_X9_isTribe rfl rfl rfl (by decide +kernel) ⟨Nat.le_of_ble_eq_true rfl, Nat.le_of_ble_eq_true rfl⟩) hP hS rfl hl.1 rfl (Nat.le_of_ble_eq_true rfl) dX9_rows_1 ⟨Nat.zero_le _, Nat.zero_le _⟩ (fun H locs hP hS => ?_)
  refine lv_if_eq (tgt := 18) hx hb dX9_rows_4 (by decide) (fun c_4 => ?_) (fun c_4 => ?_)
  · have b4 : isT t = false := (zI_eq _).mp c_4
    refine lv_bipush (v := (-2)) hx hb dX9_rows_18 (by decide) ?_
    exact c_reti hx hb hr hlocks hAe hK hP hD hS rfl dX9_rows_20 (⟨by rw [csRows, if_neg (by rw [b4]; decide)], rfl⟩)
  · have b4 : isT t = true := (zI_ne _).mp c_4
    obtain ⟨tt, htt, ett⟩ := (inR_k 10 (hi := 9) rfl (by omega)).mp b4
    have hst : sI t = tt := by rw [ett]; exact nI_clamp (by omega)
    refine lv_aload_n hx hb dX9_rows_7 rfl (lv_at hl 0 rfl) ?_
    refine cg_X9_dawn (i := 0) hx hb hts hin9 hown hK hP ((hR 0 (0)).mpr Nat.zero_lt_one) (by decide +kernel) dX9_rows_8 ?_
    refine lv_iload_n hx hb dX9_rows_11 rfl (lv_at hl 1 rfl) ?_
    refine c_callip (ci := 3) (q := (RX3, TX3, 7)) (κ := 9) (i := 0) (As := [.int t]) (rest := []) ⟨hx, hb, hml, hown, hts⟩ (ctX3_rowsOf l D y ad x R qs nC nT hR t tt co ett htt hco) (cwV 1 hts gX9_rows_X3_rowsOf rfl rfl rfl (by decide +kernel) ⟨Nat.le_of_ble_eq_true rfl, Nat.le_of_ble_eq_true rfl⟩) ((hR 9 (0)).mpr Nat.zero_lt_one) (fun _ _ _ => ⟨_, rfl⟩) rfl hE hK hP hD hS hA rfl hl.1 rfl (Nat.le_of_ble_eq_true rfl) dX9_rows_12 ⟨Nat.zero_le _, Nat.zero_le _⟩ (fun H locs hP hD hS => ?_)
    refine lv_goto (tgt := 20) hx hb dX9_rows_15 (by decide) ?_
    exact c_reti hx hb hr hlocks hAe hK hP hD hS rfl dX9_rows_20 (⟨by rw [csRows, if_pos b4, hst], rfl⟩)
