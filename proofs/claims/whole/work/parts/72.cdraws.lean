/-! the landed program: its calls on draws -/
def csDraws (co : Nat → Nat) (t w : Int32) : Int64 := if cCan co t w then lN (ch (cMn co (sI t) 5) (sI w)) else -2
set_option maxHeartbeats 4000000 in
set_option maxRecDepth 100000 in
/-- draws -/
theorem ctX9_draws (l : Launch) (D : va_G) (y : Nat → ClassId) (ad : Nat → Nat → Nat) (x : cS) (R : List (Nat × Nat)) (qs : Nat → Nat × Nat) (nC nT : Nat) (hR : cHas R nC nT) (t w : Int32) (co : Nat → Nat) (hco : ∀ j, j < 50 → x.1 11 0 j = nI (co j) ∧ co j ≤ 150) (h30 : ∀ t, t < 10 → cMn co t 5 ≤ 30) : cMl l yX9_draws wsX9_draws ({ frames := 3, cells := 0, slots := 0, locals := 72 }) D y ad x R qs [.ref (ad 0 0), .int t, .int w] (fun r x' => r = csDraws co t w ∧ x' = x) := by
  refine cMl_of (cc := cX9_draws) (maxL := 3) (ret := (some .long)) (by decide) rfl (Nat.le_of_ble_eq_true rfl) ?_
  intro p e s m below meth c A ls hat hAe hl
  obtain ⟨hx, hb, hr, hml, hts, hown, hlocks, hK, hP, hD, hA, hE⟩ := hat
  have hown : s.vm.findClass RX9 = some m.cls := hown
  have hin9 : ∀ w ∈ wsX90, w ∈ wsX9_draws := fun _ h9 => List.mem_cons_of_mem _ (List.mem_append_left _ (List.mem_append_right _ h9))
  have hin3 : ∀ w ∈ wsX30, w ∈ wsX9_draws := fun _ h9 => List.mem_cons_of_mem _ (List.mem_append_right _ h9)
  have hl : lv_has ls 3 [(0, .ref (ad 0 0)), (1, .int t), (2, .int w)] := hl
  have hS : va_S A s.heap s.heap [] := va_S.rf
  refine lv_aload_n hx hb dX9_draws_0 rfl (lv_at hl 0 rfl) ?_
  refine lv_iload_n hx hb dX9_draws_1 rfl (lv_at hl 1 rfl) ?_
  refine lv_iload_n hx hb dX9_draws_2 rfl (lv_at hl 2 rfl) ?_
  refine c_callip (ci := 9) (q := (RX9, TX9, 11)) (κ := 0) (i := 0) (As := [.int t, .int w]) (rest := []) ⟨hx, hb, hml, hown, hts⟩ (ctX9_canDraw l D y ad x R qs nC nT hR t w co hco) (cwV 2 hts gX9_draws_X9_canDraw rfl rfl rfl (by decide +kernel) ⟨Nat.le_of_ble_eq_true rfl, Nat.le_of_ble_eq_true rfl⟩) ((hR 0 (0)).mpr Nat.zero_lt_one) (fun _ _ _ => ⟨_, rfl⟩) rfl hE hK hP hD hS hA rfl hl.1 rfl (Nat.le_of_ble_eq_true rfl) dX9_draws_3 ⟨Nat.zero_le _, Nat.zero_le _⟩ (fun H locs hP hD hS => ?_)
  refine lv_if_ne (tgt := 13) hx hb dX9_draws_6 (by decide) (fun c_6 => ?_) (fun c_6 => ?_)
  · have b6 : cCan co t w = true := (zI_ne _).mp c_6
    have bT := (Bool.and_eq_true_iff.mp b6).1
    have bW := (Bool.and_eq_true_iff.mp b6).2
    obtain ⟨tt, htt, ett⟩ := (inR_k 10 (hi := 9) rfl (by omega)).mp bT
    have hst : sI t = tt := by rw [ett]; exact nI_clamp (by omega)
    obtain ⟨ww, hww, eww⟩ := (inR_c (by have := h30 tt htt; rw [hst]; omega)).mp bW
    rw [hst] at hww
    have h30t := h30 tt htt
    have hsw : sI w = ww := by rw [eww]; exact nI_clamp (by omega)
    refine lv_aload_n hx hb dX9_draws_13 rfl (lv_at hl 0 rfl) ?_
    refine cg_X9_dawn (i := 0) hx hb hts hin9 hown hK hP ((hR 0 (0)).mpr Nat.zero_lt_one) (by decide +kernel) dX9_draws_14 ?_
    refine lv_iload_n hx hb dX9_draws_17 rfl (lv_at hl 1 rfl) ?_
    refine c_callip (ci := 3) (q := (RX3, TX3, 7)) (κ := 9) (i := 0) (As := [.int t]) (rest := []) ⟨hx, hb, hml, hown, hts⟩ (ctX3_rowsOf l D y ad x R qs nC nT hR t tt co ett htt hco) (cwV 1 hts gX9_draws_X3_rowsOf rfl rfl rfl (by decide +kernel) ⟨Nat.le_of_ble_eq_true rfl, Nat.le_of_ble_eq_true rfl⟩) ((hR 9 (0)).mpr Nat.zero_lt_one) (fun _ _ _ => ⟨_, rfl⟩) rfl hE hK hP hD hS hA rfl hl.1 rfl (Nat.le_of_ble_eq_true rfl) dX9_draws_18 ⟨Nat.zero_le _, Nat.zero_le _⟩ (fun H locs hP hD hS => ?_)
    refine lv_iload_n hx hb dX9_draws_21 rfl (lv_at hl 2 rfl) ?_
    refine s_calll (As := [.int (nI (cMn co tt 5)), .int (w)]) (rest := []) ⟨hx, hb, hml, hown, hts⟩ (ctX9_waysToChoose l (cMn co tt 5) (w) (by omega)) (va_cwS 2 hts gX9_draws_X9_waysToChoose rfl rfl rfl (by decide +kernel) ⟨Nat.le_of_ble_eq_true rfl, Nat.le_of_ble_eq_true rfl⟩) hP hS rfl hl.1 rfl (Nat.le_of_ble_eq_true rfl) dX9_draws_22 ⟨Nat.zero_le _, Nat.zero_le _⟩ (fun H locs hP hS => ?_)
    exact c_retl hx hb hr hlocks hAe hK hP hD hS dX9_draws_25 (⟨by rw [csDraws, if_pos b6, hst, hsw, eww, wtc_nI (by omega) (by omega)], rfl⟩)
  · have b6 : cCan co t w = false := (zI_eq _).mp c_6
    refine lv_ldc2 (v := (-2)) hx hb hown (hts (.constantLong RX9 175 (-2)) (by decide +kernel)) dX9_draws_9 ?_
    exact c_retl hx hb hr hlocks hAe hK hP hD hS dX9_draws_12 (⟨by rw [csDraws, if_neg (by rw [b6]; decide)], rfl⟩)
def okDraw9 (co : Nat → Nat) (t w : Int32) (num : Int64) : Bool := cCan co t w && (decide (0 ≤ num) && decide (num < lN (ch (cMn co (sI t) 5) (sI w))))
def csDraw (x : cS) (co : Nat → Nat) (tk : Nat → Nat → Nat) (q : Nat) (t w : Int32) (num : Int64) : Int32 × cS := if okDraw9 co t w num then (if x.1 12 0 (sI t) = 0 then (nI (5 * (sI w - (cDr x tk (cMn co (sI t) 5) (sI w) num q (cMn co (sI t) 5)).2.1)), cI (cDr x tk (cMn co (sI t) 5) (sI w) num q (cMn co (sI t) 5)).2.2 12 0 (sI t) 1) else (-4, x)) else (-2, x)
set_option maxHeartbeats 4000000 in
set_option maxRecDepth 100000 in
/-- draw -/
theorem ctX9_draw (l : Launch) (D : va_G) (y : Nat → ClassId) (ad : Nat → Nat → Nat) (x : cS) (R : List (Nat × Nat)) (qs : Nat → Nat × Nat) (nC nT : Nat) (hR : cHas R nC nT) (t w : Int32) (num : Int64) (a q0 : Nat) (cm co : Nat → Nat) (tk : Nat → Nat → Nat) (ha : x.1 9 0 4 = nI a) (ha1 : a ≤ 150) (hcm : ∀ i, i < a → x.2.2 10 0 i = some (cm i) ∧ cm i < nC) (hco : ∀ j, j < 50 → x.1 11 0 j = nI (co j) ∧ co j ≤ 150) (h30 : ∀ t, t < 10 → cMn co t 5 ≤ 30) (hq0 : x.1 9 0 5 = nI q0) (hdw : isT t = true → x.1 12 0 (sI t) = 0 → q0 + 5 * cMn co (sI t) 5 ≤ 150 ∧ ∀ r, r < cMn co (sI t) 5 → ∀ w, w < 5 → fOpt (fun i => cHo x t (nI w) (nI r) (cm i)) a cm = some (tk r w)) : cMi l yX9_draw wsX9_draw ({ frames := 4, cells := 0, slots := 0, locals := 104 }) D y ad x R qs [.ref (ad 0 0), .int t, .int w, .long num] (fun r x' => (r, x') = csDraw x co tk q0 t w num) := by
  refine cMi_of (cc := cX9_draw) (maxL := 5) (ret := (some .int)) (by decide) rfl (Nat.le_of_ble_eq_true rfl) ?_
  intro p e s m below meth c A ls hat hAe hl
  obtain ⟨hx, hb, hr, hml, hts, hown, hlocks, hK, hP, hD, hA, hE⟩ := hat
  have hown : s.vm.findClass RX9 = some m.cls := hown
  have hin9 : ∀ w ∈ wsX90, w ∈ wsX9_draw := fun _ h9 => List.mem_cons_of_mem _ (List.mem_append_left _ (List.mem_append_left _ (List.mem_append_right _ h9)))
  have hin3 : ∀ w ∈ wsX30, w ∈ wsX9_draw := fun _ h9 => List.mem_cons_of_mem _ (List.mem_append_left _ (List.mem_append_right _ h9))
  have hin1 : ∀ w ∈ wsX10, w ∈ wsX9_draw := fun _ h9 => List.mem_cons_of_mem _ (List.mem_append_right _ h9)
  have hl : lv_has ls 5 [(0, .ref (ad 0 0)), (1, .int t), (2, .int w), (3, .long num)] := hl
  have hS : va_S A s.heap s.heap [] := va_S.rf
  refine lv_aload_n hx hb dX9_draw_0 rfl (lv_at hl 0 rfl) ?_
  refine lv_iload_n hx hb dX9_draw_1 rfl (lv_at hl 1 rfl) ?_
  refine lv_iload_n hx hb dX9_draw_2 rfl (lv_at hl 2 rfl) ?_
  refine c_callip (ci := 9) (q := (RX9, TX9, 11)) (κ := 0) (i := 0) (As := [.int t, .int w]) (rest := []) ⟨hx, hb, hml, hown, hts⟩ (ctX9_canDraw l D y ad x R qs nC nT hR t w co hco) (cwV 2 hts gX9_draw_X9_canDraw rfl rfl rfl (by decide +kernel) ⟨Nat.le_of_ble_eq_true rfl, Nat.le_of_ble_eq_true rfl⟩) ((hR 0 (0)).mpr Nat.zero_lt_one) (fun _ _ _ => ⟨_, rfl⟩) rfl hE hK hP hD hS hA rfl hl.1 rfl (Nat.le_of_ble_eq_true rfl) dX9_draw_3 ⟨Nat.zero_le _, Nat.zero_le _⟩ (fun H locs hP hD hS => ?_)
  refine lv_if_ne (tgt := 12) hx hb dX9_draw_6 (by decide) (fun c_6 => ?_) (fun c_6 => ?_)
  · have b6 : cCan co t w = true := (zI_ne _).mp c_6
    have bT := (Bool.and_eq_true_iff.mp b6).1
    have bW := (Bool.and_eq_true_iff.mp b6).2
    obtain ⟨tt, htt, ett⟩ := (inR_k 10 (hi := 9) rfl (by omega)).mp bT
    have hst : sI t = tt := by rw [ett]; exact nI_clamp (by omega)
    obtain ⟨ww, hww, eww⟩ := (inR_c (by have := h30 tt htt; rw [hst]; omega)).mp bW
    rw [hst] at hww
    have h30t := h30 tt htt
    have hsw : sI w = ww := by rw [eww]; exact nI_clamp (by omega)
    refine lv_lload_n hx hb dX9_draw_12 rfl (lv_at hl 3 rfl) ?_
    refine lv_lconst (v := 0) hx hb dX9_draw_13 (by decide) ?_
    refine W.lcmp hx hb dX9_draw_14 ?_
    refine lv_if_lt (tgt := 35) hx hb dX9_draw_15 (by decide) (fun c_15 => ?_) (fun c_15 => ?_)
    · have b15 : ¬ 0 ≤ num := Int64.not_le.mpr ((lg_cmp_lt _ _).mp c_15)
      refine lv_bipush (v := (-2)) hx hb dX9_draw_35 (by decide) ?_
      exact c_reti hx hb hr hlocks hAe hK hP hD hS rfl dX9_draw_37 (by rw [csDraw, if_neg (by simp [okDraw9, b15])])
    · have b15 : 0 ≤ num := Int64.not_lt.mp (fun q9 => c_15 ((lg_cmp_lt _ _).mpr q9))
      refine lv_lload_n hx hb dX9_draw_18 rfl (lv_at hl 3 rfl) ?_
      refine lv_aload_n hx hb dX9_draw_19 rfl (lv_at hl 0 rfl) ?_
      refine cg_X9_dawn (i := 0) hx hb hts hin9 hown hK hP ((hR 0 (0)).mpr Nat.zero_lt_one) (by decide +kernel) dX9_draw_20 ?_
      refine lv_iload_n hx hb dX9_draw_23 rfl (lv_at hl 1 rfl) ?_
      refine c_callip (ci := 3) (q := (RX3, TX3, 7)) (κ := 9) (i := 0) (As := [.int t]) (rest := [.long num]) ⟨hx, hb, hml, hown, hts⟩ (ctX3_rowsOf l D y ad x R qs nC nT hR t tt co ett htt hco) (cwV 1 hts gX9_draw_X3_rowsOf rfl rfl rfl (by decide +kernel) ⟨Nat.le_of_ble_eq_true rfl, Nat.le_of_ble_eq_true rfl⟩) ((hR 9 (0)).mpr Nat.zero_lt_one) (fun _ _ _ => ⟨_, rfl⟩) rfl hE hK hP hD hS hA rfl hl.1 rfl (Nat.le_of_ble_eq_true rfl) dX9_draw_24 ⟨Nat.zero_le _, Nat.zero_le _⟩ (fun H locs hP hD hS => ?_)
      refine lv_iload_n hx hb dX9_draw_27 rfl (lv_at hl 2 rfl) ?_
      refine s_calll (As := [.int (nI (cMn co tt 5)), .int (w)]) (rest := [.long num]) ⟨hx, hb, hml, hown, hts⟩ (ctX9_waysToChoose l (cMn co tt 5) (w) (by omega)) (va_cwS 2 hts gX9_draw_X9_waysToChoose rfl rfl rfl (by decide +kernel) ⟨Nat.le_of_ble_eq_true rfl, Nat.le_of_ble_eq_true rfl⟩) hP hS rfl hl.1 rfl (Nat.le_of_ble_eq_true rfl) dX9_draw_28 ⟨Nat.zero_le _, Nat.zero_le _⟩ (fun H locs hP hS => ?_)
      refine W.lcmp hx hb dX9_draw_31 ?_
      refine lv_if_lt (tgt := 38) hx hb dX9_draw_32 (by decide) (fun c_32 => ?_) (fun c_32 => ?_)
      · have b32 : num < lN (ch (cMn co (sI t) 5) (sI w)) := by have h9 := (lg_cmp_lt _ _).mp c_32; rw [hst, hsw]; rw [eww, wtc_nI (by omega) (by omega)] at h9; exact h9
        refine lv_aload_n hx hb dX9_draw_38 rfl (lv_at hl 0 rfl) ?_
        refine cg_X9_dawn (i := 0) hx hb hts hin9 hown hK hP ((hR 0 (0)).mpr Nat.zero_lt_one) (by decide +kernel) dX9_draw_39 ?_
        refine lv_iload_n hx hb dX9_draw_42 rfl (lv_at hl 1 rfl) ?_
        refine c_callip (ci := 3) (q := (RX3, TX3, 7)) (κ := 9) (i := 0) (As := [.int t]) (rest := []) ⟨hx, hb, hml, hown, hts⟩ (ctX3_hasDrawn l D y ad x R qs nC nT hR t tt ett htt) (cwV 1 hts gX9_draw_X3_hasDrawn rfl rfl rfl (by decide +kernel) ⟨Nat.le_of_ble_eq_true rfl, Nat.le_of_ble_eq_true rfl⟩) ((hR 9 (0)).mpr Nat.zero_lt_one) (fun _ _ _ => ⟨_, rfl⟩) rfl hE hK hP hD hS hA rfl hl.1 rfl (Nat.le_of_ble_eq_true rfl) dX9_draw_43 ⟨Nat.zero_le _, Nat.zero_le _⟩ (fun H locs hP hD hS => ?_)
        refine lv_if_eq (tgt := 52) hx hb dX9_draw_46 (by decide) (fun c_46 => ?_) (fun c_46 => ?_)
        · have b46 : (!decide (x.1 12 0 tt = 0)) = false := (zI_eq _).mp c_46
          have h46 : x.1 12 0 (sI t) = 0 := by rw [hst]; simpa using b46
          obtain ⟨hroom, htk⟩ := hdw bT h46
          rw [hst] at hroom htk
          refine lv_aload_n hx hb dX9_draw_52 rfl (lv_at hl 0 rfl) ?_
          refine cg_X9_dawn (i := 0) hx hb hts hin9 hown hK hP ((hR 0 (0)).mpr Nat.zero_lt_one) (by decide +kernel) dX9_draw_53 ?_
          refine lv_iload_n hx hb dX9_draw_56 rfl (lv_at hl 1 rfl) ?_
          refine lv_iload_n hx hb dX9_draw_57 rfl (lv_at hl 2 rfl) ?_
          refine lv_lload_n hx hb dX9_draw_58 rfl (lv_at hl 3 rfl) ?_
          refine c_calli (ci := 3) (q := (RX3, TX3, 7)) (κ := 9) (i := 0) (As := [.int t, .int w, .long num]) (rest := []) ⟨hx, hb, hml, hown, hts⟩ (ctX3_chooseRows l D y ad x R qs nC nT hR t w num a q0 tt ww cm co tk ha ha1 hcm ett htt hco h30t eww (by omega) hq0 (by omega) htk) (cwV 3 hts gX9_draw_X3_chooseRows rfl rfl rfl (by decide +kernel) ⟨Nat.le_of_ble_eq_true rfl, Nat.le_of_ble_eq_true rfl⟩) ((hR 9 (0)).mpr Nat.zero_lt_one) (fun _ _ _ => ⟨_, rfl⟩) rfl hE hK hP hD hS hA rfl hl.1 rfl (Nat.le_of_ble_eq_true rfl) dX9_draw_59 ⟨Nat.zero_le _, Nat.zero_le _⟩ (fun r_59 x1 H locs hq hP hD hS => ?_)
          exact c_reti hx hb hr hlocks hAe hK hP hD hS rfl dX9_draw_62 (by rw [csDraw, if_pos (by simp [okDraw9, b6, b15, b32]), if_pos h46, hst, hsw, hq.1, hq.2])
        · have b46 : (!decide (x.1 12 0 tt = 0)) = true := (zI_ne _).mp c_46
          have h46 : ¬ x.1 12 0 (sI t) = 0 := by rw [hst]; simpa using b46
          refine lv_bipush (v := (-4)) hx hb dX9_draw_49 (by decide) ?_
          exact c_reti hx hb hr hlocks hAe hK hP hD hS rfl dX9_draw_51 (by rw [csDraw, if_pos (by simp [okDraw9, b6, b15, b32]), if_neg h46])
      · have b32 : ¬ num < lN (ch (cMn co (sI t) 5) (sI w)) := fun q9 => c_32 ((lg_cmp_lt _ _).mpr (by rw [hst, hsw] at q9; rw [eww, wtc_nI (by omega) (by omega)]; exact q9))
        refine lv_bipush (v := (-2)) hx hb dX9_draw_35 (by decide) ?_
        exact c_reti hx hb hr hlocks hAe hK hP hD hS rfl dX9_draw_37 (by rw [csDraw, if_neg (by simp [okDraw9, b15, b32])])
  · have b6 : cCan co t w = false := (zI_eq _).mp c_6
    refine lv_bipush (v := (-2)) hx hb dX9_draw_9 (by decide) ?_
    exact c_reti hx hb hr hlocks hAe hK hP hD hS rfl dX9_draw_11 (by rw [csDraw, if_neg (by simp [okDraw9, b6])])
def csChances (x : cS) (nC : Nat) (co tb : Nat → Nat) (t w : Int32) : Int64 := if isC nC t && cCan co (x.1 24 (sI t) 1) w then (if x.1 24 (sI t) 7 = -1 then -4 else if x.1 24 (sI t) 7 < nI (cMn co (tb (sI t)) 5) then wtc (cMn co (tb (sI t)) 5 - 1) (w - 1) else 0) else -2
set_option maxHeartbeats 4000000 in
set_option maxRecDepth 100000 in
/-- chances -/
theorem ctX9_chances (l : Launch) (D : va_G) (y : Nat → ClassId) (ad : Nat → Nat → Nat) (x : cS) (R : List (Nat × Nat)) (qs : Nat → Nat × Nat) (nC nT : Nat) (hR : cHas R nC nT) (t w : Int32) (co tb : Nat → Nat) (hn : x.1 0 0 7 = nI nC) (hn1 : nC ≤ 150) (hro : ∀ c, c < nC → x.2.2 8 0 c = some c) (hco : ∀ j, j < 50 → x.1 11 0 j = nI (co j) ∧ co j ≤ 150) (h30 : ∀ t, t < 10 → cMn co t 5 ≤ 30) (htb : ∀ c, c < nC → x.1 24 c 1 = nI (tb c) ∧ tb c < 10) (hpl : ∀ c, c < nC → ¬ x.1 24 c 7 = -1 → ∃ p, p ≤ 150 ∧ x.1 24 c 7 = nI p) : cMl l yX9_chances wsX9_chances ({ frames := 3, cells := 0, slots := 0, locals := 72 }) D y ad x R qs [.ref (ad 0 0), .int t, .int w] (fun r x' => r = csChances x nC co tb t w ∧ x' = x) := by
  refine cMl_of (cc := cX9_chances) (maxL := 5) (ret := (some .long)) (by decide) rfl (Nat.le_of_ble_eq_true rfl) ?_
  intro p e s m below meth c A ls hat hAe hl
  obtain ⟨hx, hb, hr, hml, hts, hown, hlocks, hK, hP, hD, hA, hE⟩ := hat
  have hown : s.vm.findClass RX9 = some m.cls := hown
  have hin1 : ∀ w ∈ wsX10, w ∈ wsX9_chances := fun _ h9 => List.mem_cons_of_mem _ (List.mem_append_left _ (List.mem_append_left _ (List.mem_append_right _ h9)))
  have hin9 : ∀ w ∈ wsX90, w ∈ wsX9_chances := fun _ h9 => List.mem_cons_of_mem _ (List.mem_append_left _ (List.mem_append_right _ h9))
  have hin3 : ∀ w ∈ wsX30, w ∈ wsX9_chances := fun _ h9 => List.mem_cons_of_mem _ (List.mem_append_right _ h9)
  have hl : lv_has ls 5 [(0, .ref (ad 0 0)), (1, .int t), (2, .int w)] := hl
  have hS : va_S A s.heap s.heap [] := va_S.rf
  refine lv_aload_n hx hb dX9_chances_0 rfl (lv_at hl 0 rfl) ?_
  refine lv_iload_n hx hb dX9_chances_1 rfl (lv_at hl 1 rfl) ?_
  refine c_callep (ci := 9) (q := (RX9, TX9, 11)) (κ := 0) (i := 0) (As := [.int t]) (rest := []) ⟨hx, hb, hml, hown, hts⟩ (ctX9_citizenAt l D y ad x R qs nC nT hR (t) hn hn1 hro) (cwV 1 hts gX9_chances_X9_citizenAt rfl rfl rfl (by decide +kernel) ⟨Nat.le_of_ble_eq_true rfl, Nat.le_of_ble_eq_true rfl⟩) ((hR 0 (0)).mpr Nat.zero_lt_one) (fun _ _ _ => ⟨_, rfl⟩) rfl hE hK hP hD hS hA rfl hl.1 rfl (Nat.le_of_ble_eq_true rfl) dX9_chances_2 ⟨Nat.zero_le _, Nat.zero_le _⟩ (fun H locs hP hD hS => ?_)
  refine lv_re (fun e_2 => ?_) (fun c9 e_2 => ?_)
  · have b9 : isC nC (t) = false := citF_n e_2
    refine lv_astore_nN (lv' := [(3, .null), (0, .ref (ad 0 0)), (1, .int t), (2, .int w)]) hx hb dX9_chances_5 rfl hl (by decide) rfl (fun ls hl => ?_)
    refine lv_aload_nN hx hb dX9_chances_6 rfl (lv_at hl 0 rfl) ?_
    refine lv_ifnullN (tgt := 22) hx hb dX9_chances_7 (by decide) ?_
    refine lv_ldc2 (v := (-2)) hx hb hown (hts (.constantLong RX9 175 (-2)) (by decide +kernel)) dX9_chances_22 ?_
    exact c_retl hx hb hr hlocks hAe hK hP hD hS dX9_chances_25 (⟨by rw [csChances, if_neg (by simp [b9])], rfl⟩)
  · obtain ⟨b9, hb9, eb9⟩ := citF_s hn1 e_2
    rw [eb9]
    obtain ⟨ht1, ht2⟩ := htb _ hb9
    have hst : sI (x.1 24 (sI t) 1) = tb (sI t) := by rw [ht1]; exact nI_clamp (by omega)
    refine lv_astore_n (lv' := [(3, .ref (ad 24 (sI t))), (0, .ref (ad 0 0)), (1, .int t), (2, .int w)]) hx hb dX9_chances_5 rfl hl (by decide) rfl (fun ls hl => ?_)
    refine lv_aload_n hx hb dX9_chances_6 rfl (lv_at hl 0 rfl) ?_
    refine lv_ifnull hx hb dX9_chances_7 ?_
    refine lv_aload_n hx hb dX9_chances_10 rfl (lv_at hl 1 rfl) ?_
    refine lv_aload_n hx hb dX9_chances_11 rfl (lv_at hl 0 rfl) ?_
    refine cg_X1_tribe (i := sI t) hx hb hts hin1 hown hK hP ((hR 24 (sI t)).mpr hb9) (by decide +kernel) dX9_chances_12 ?_
    refine lv_iload_n hx hb dX9_chances_15 rfl (lv_at hl 3 rfl) ?_
    refine c_callip (ci := 9) (q := (RX9, TX9, 11)) (κ := 0) (i := 0) (As := [.int (x.1 24 (sI t) 1), .int w]) (rest := []) ⟨hx, hb, hml, hown, hts⟩ (ctX9_canDraw l D y ad x R qs nC nT hR (x.1 24 (sI t) 1) w co hco) (cwV 2 hts gX9_chances_X9_canDraw rfl rfl rfl (by decide +kernel) ⟨Nat.le_of_ble_eq_true rfl, Nat.le_of_ble_eq_true rfl⟩) ((hR 0 (0)).mpr Nat.zero_lt_one) (fun _ _ _ => ⟨_, rfl⟩) rfl hE hK hP hD hS hA rfl hl.1 rfl (Nat.le_of_ble_eq_true rfl) dX9_chances_16 ⟨Nat.zero_le _, Nat.zero_le _⟩ (fun H locs hP hD hS => ?_)
    refine lv_if_ne (tgt := 26) hx hb dX9_chances_19 (by decide) (fun c_19 => ?_) (fun c_19 => ?_)
    · have b19 : cCan co (x.1 24 (sI t) 1) w = true := (zI_ne _).mp c_19
      refine lv_aload_n hx hb dX9_chances_26 rfl (lv_at hl 0 rfl) ?_
      refine cg_X1_place (i := sI t) hx hb hts hin1 hown hK hP ((hR 24 (sI t)).mpr hb9) (by decide +kernel) dX9_chances_27 ?_
      refine lv_iconst (v := (-1)) hx hb dX9_chances_30 (by decide) ?_
      refine lv_icmp_ne (tgt := 38) hx hb dX9_chances_31 (by decide) (fun c_31 => ?_) (fun c_31 => ?_)
      · obtain ⟨pp, hpp, epp⟩ := hpl _ hb9 c_31
        have h30t := h30 _ ht2
        refine lv_aload_n hx hb dX9_chances_38 rfl (lv_at hl 1 rfl) ?_
        refine cg_X9_dawn (i := 0) hx hb hts hin9 hown hK hP ((hR 0 (0)).mpr Nat.zero_lt_one) (by decide +kernel) dX9_chances_39 ?_
        refine lv_aload_n hx hb dX9_chances_42 rfl (lv_at hl 0 rfl) ?_
        refine cg_X1_tribe (i := sI t) hx hb hts hin1 hown hK hP ((hR 24 (sI t)).mpr hb9) (by decide +kernel) dX9_chances_43 ?_
        refine c_callip (ci := 3) (q := (RX3, TX3, 7)) (κ := 9) (i := 0) (As := [.int (x.1 24 (sI t) 1)]) (rest := []) ⟨hx, hb, hml, hown, hts⟩ (ctX3_rowsOf l D y ad x R qs nC nT hR (x.1 24 (sI t) 1) (tb (sI t)) co ht1 ht2 hco) (cwV 1 hts gX9_chances_X3_rowsOf rfl rfl rfl (by decide +kernel) ⟨Nat.le_of_ble_eq_true rfl, Nat.le_of_ble_eq_true rfl⟩) ((hR 9 (0)).mpr Nat.zero_lt_one) (fun _ _ _ => ⟨_, rfl⟩) rfl hE hK hP hD hS hA rfl hl.1 rfl (Nat.le_of_ble_eq_true rfl) dX9_chances_46 ⟨Nat.zero_le _, Nat.zero_le _⟩ (fun H locs hP hD hS => ?_)
        refine lv_topi (fun x4 ex4 => ?_)
        refine lv_istore (lv' := [(4, .int x4), (3, .ref (ad 24 (sI t))), (0, .ref (ad 0 0)), (1, .int t), (2, .int w)]) hx hb dX9_chances_49 hl (by decide) rfl (fun ls hl => ?_)
        refine lv_aload_n hx hb dX9_chances_51 rfl (lv_at hl 1 rfl) ?_
        refine cg_X1_place (i := sI t) hx hb hts hin1 hown hK hP ((hR 24 (sI t)).mpr hb9) (by decide +kernel) dX9_chances_52 ?_
        refine lv_iload hx hb dX9_chances_55 (lv_at hl 0 rfl) ?_
        refine lv_icmp_ge (tgt := 73) hx hb dX9_chances_57 (by decide) (fun c_57 => ?_) (fun c_57 => ?_)
        · refine lv_lconst (v := 0) hx hb dX9_chances_73 (by decide) ?_
          exact c_retl hx hb hr hlocks hAe hK hP hD hS dX9_chances_74 (⟨by rw [csChances, if_pos (by simp [b9, b19]), if_neg c_31, if_neg (by rw [← ex4]; exact Int32.not_lt.mpr c_57)], rfl⟩)
        · have hr1 : 1 ≤ cMn co (tb (sI t)) 5 := by rw [epp, ex4] at c_57; have h9 : ¬ cMn co (tb (sI t)) 5 ≤ pp := fun q9 => c_57 (nI_le q9 (by omega)); omega
          refine lv_iload hx hb dX9_chances_60 (lv_at hl 0 rfl) ?_
          refine lv_iconst (v := 1) hx hb dX9_chances_62 (by decide) ?_
          refine lv_isub hx hb dX9_chances_63 ?_
          refine lv_iload_n hx hb dX9_chances_64 rfl (lv_at hl 4 rfl) ?_
          refine lv_iconst (v := 1) hx hb dX9_chances_65 (by decide) ?_
          refine lv_isub hx hb dX9_chances_66 ?_
          rw [show x4 - 1 = nI (cMn co (tb (sI t)) 5 - 1) by rw [ex4]; exact pk_sub (b := 1) hr1]
          refine s_calll (As := [.int (nI (cMn co (tb (sI t)) 5 - 1)), .int (w - 1)]) (rest := []) ⟨hx, hb, hml, hown, hts⟩ (ctX9_waysToChoose l (cMn co (tb (sI t)) 5 - 1) (w - 1) (by omega)) (va_cwS 2 hts gX9_chances_X9_waysToChoose rfl rfl rfl (by decide +kernel) ⟨Nat.le_of_ble_eq_true rfl, Nat.le_of_ble_eq_true rfl⟩) hP hS rfl hl.1 rfl (Nat.le_of_ble_eq_true rfl) dX9_chances_67 ⟨Nat.zero_le _, Nat.zero_le _⟩ (fun H locs hP hS => ?_)
          refine lv_goto (tgt := 74) hx hb dX9_chances_70 (by decide) ?_
          exact c_retl hx hb hr hlocks hAe hK hP hD hS dX9_chances_74 (⟨by rw [csChances, if_pos (by simp [b9, b19]), if_neg c_31, if_pos (by rw [← ex4]; exact Int32.not_le.mp c_57)], rfl⟩)
      · refine lv_ldc2 (v := (-4)) hx hb hown (hts (.constantLong RX9 185 (-4)) (by decide +kernel)) dX9_chances_34 ?_
        exact c_retl hx hb hr hlocks hAe hK hP hD hS dX9_chances_37 (⟨by rw [csChances, if_pos (by simp [b9, b19]), if_pos c_31], rfl⟩)
    · have b19 : cCan co (x.1 24 (sI t) 1) w = false := (zI_eq _).mp c_19
      refine lv_ldc2 (v := (-2)) hx hb hown (hts (.constantLong RX9 175 (-2)) (by decide +kernel)) dX9_chances_22 ?_
      exact c_retl hx hb hr hlocks hAe hK hP hD hS dX9_chances_25 (⟨by rw [csChances, if_neg (by simp [b9, b19])], rfl⟩)
theorem bsm_0 {N m r : Nat} (h : N / 2 ^ (5 * m) = 0) (hr : m ≤ r) : ∀ l, bsm N r l = 0
  | 0 => rfl
  | l + 1 => by
    rw [bsm, bsm_0 h hr l]
    have h1 : N < 2 ^ (5 * m) := by
      rcases Nat.lt_or_ge N (2 ^ (5 * m)) with q | q
      · exact q
      · have := Nat.div_pos q (Nat.two_pow_pos _); omega
    have h2 : N / 2 ^ (5 * r + l) = 0 := Nat.div_eq_of_lt (Nat.lt_of_lt_of_le h1 (Nat.pow_le_pow_right (by omega) (by omega)))
    rw [h2]
theorem nzr_fit {N m : Nat} (h : N / 2 ^ (5 * m) = 0) : ∀ r, nzr (bbr N) r ≤ m
  | 0 => Nat.zero_le _
  | r + 1 => by
    have ih := nzr_fit h r
    by_cases hr : m ≤ r
    · rw [nzr_z (by unfold bbr; split; exact bsm_0 h hr 5; rfl)]; exact ih
    · exact Nat.le_trans (nzr_le _ _) (by omega)
def csBribed (co : Nat → Nat) (t w : Int32) (bits : Int64) (m9 : Int32) : Int64 := if cCan co t w && (decide (0 ≤ m9) && decide (uNat bits / 2 ^ (5 * min (cMn co (sI t) 5) 12) = 0)) then lN (gS (cz (bbr (uNat bits)) 12) (cMn co (sI t) 5 - nzr (bbr (uNat bits)) 12) (sI w) (sI m9) (nzr (bbr (uNat bits)) 12 + 1)) else -2
set_option maxHeartbeats 4000000 in
set_option maxRecDepth 100000 in
/-- bribed -/
theorem ctX9_bribed (l : Launch) (D : va_G) (y : Nat → ClassId) (ad : Nat → Nat → Nat) (x : cS) (R : List (Nat × Nat)) (qs : Nat → Nat × Nat) (nC nT : Nat) (hR : cHas R nC nT) (t w : Int32) (bits : Int64) (m9 : Int32) (co : Nat → Nat) (hco : ∀ j, j < 50 → x.1 11 0 j = nI (co j) ∧ co j ≤ 150) (h30 : ∀ t, t < 10 → cMn co t 5 ≤ 30) : cMl l yX9_bribed wsX9_bribed ({ frames := 4, cells := 0, slots := 0, locals := 108 }) D y ad x R qs [.ref (ad 0 0), .int t, .int w, .long bits, .int m9] (fun r x' => r = csBribed co t w bits m9 ∧ cKL x' x) := by
  refine cMl_of (cc := cX9_bribed) (maxL := 7) (ret := (some .long)) (by decide) rfl (Nat.le_of_ble_eq_true rfl) ?_
  intro p e s m below meth c A ls hat hAe hl
  obtain ⟨hx, hb, hr, hml, hts, hown, hlocks, hK, hP, hD, hA, hE⟩ := hat
  have hown : s.vm.findClass RX9 = some m.cls := hown
  have hin9 : ∀ w ∈ wsX90, w ∈ wsX9_bribed := fun _ h9 => List.mem_cons_of_mem _ (List.mem_append_left _ (List.mem_append_left _ (List.mem_append_right _ h9)))
  have hin3 : ∀ w ∈ wsX30, w ∈ wsX9_bribed := fun _ h9 => List.mem_cons_of_mem _ (List.mem_append_left _ (List.mem_append_right _ h9))
  have hin0 : ∀ w ∈ wsX00, w ∈ wsX9_bribed := fun _ h9 => List.mem_cons_of_mem _ (List.mem_append_right _ h9)
  have hl : lv_has ls 7 [(0, .ref (ad 0 0)), (1, .int t), (2, .int w), (3, .long bits), (5, .int m9)] := hl
  have hS : va_S A s.heap s.heap [] := va_S.rf
  refine lv_aload_n hx hb dX9_bribed_0 rfl (lv_at hl 0 rfl) ?_
  refine lv_iload_n hx hb dX9_bribed_1 rfl (lv_at hl 1 rfl) ?_
  refine lv_iload_n hx hb dX9_bribed_2 rfl (lv_at hl 2 rfl) ?_
  refine c_callip (ci := 9) (q := (RX9, TX9, 11)) (κ := 0) (i := 0) (As := [.int t, .int w]) (rest := []) ⟨hx, hb, hml, hown, hts⟩ (ctX9_canDraw l D y ad x R qs nC nT hR t w co hco) (cwV 2 hts gX9_bribed_X9_canDraw rfl rfl rfl (by decide +kernel) ⟨Nat.le_of_ble_eq_true rfl, Nat.le_of_ble_eq_true rfl⟩) ((hR 0 (0)).mpr Nat.zero_lt_one) (fun _ _ _ => ⟨_, rfl⟩) rfl hE hK hP hD hS hA rfl hl.1 rfl (Nat.le_of_ble_eq_true rfl) dX9_bribed_3 ⟨Nat.zero_le _, Nat.zero_le _⟩ (fun H locs hP hD hS => ?_)
  refine lv_if_eq (tgt := 14) hx hb dX9_bribed_6 (by decide) (fun c_6 => ?_) (fun c_6 => ?_)
  · have b6 : cCan co t w = false := (zI_eq _).mp c_6
    refine lv_ldc2 (v := (-2)) hx hb hown (hts (.constantLong RX9 175 (-2)) (by decide +kernel)) dX9_bribed_14 ?_
    exact c_retl hx hb hr hlocks hAe hK hP hD hS dX9_bribed_17 (⟨by rw [csBribed, if_neg (by simp [b6])], ⟨rfl, rfl⟩⟩)
  · have b6 : cCan co t w = true := (zI_ne _).mp c_6
    have bT := (Bool.and_eq_true_iff.mp b6).1
    have bW := (Bool.and_eq_true_iff.mp b6).2
    obtain ⟨tt, htt, ett⟩ := (inR_k 10 (hi := 9) rfl (by omega)).mp bT
    have hst : sI t = tt := by rw [ett]; exact nI_clamp (by omega)
    obtain ⟨ww, hww, eww⟩ := (inR_c (by have := h30 tt htt; rw [hst]; omega)).mp bW
    rw [hst] at hww
    have h30t := h30 tt htt
    have hsw : sI w = ww := by rw [eww]; exact nI_clamp (by omega)
    refine lv_iload hx hb dX9_bribed_9 (lv_at hl 4 rfl) ?_
    refine lv_if_ge (tgt := 18) hx hb dX9_bribed_11 (by decide) (fun c_11 => ?_) (fun c_11 => ?_)
    · obtain ⟨mm, hmm, emm⟩ := nI_of (Int32.not_lt.mpr c_11)
      have hsm : sI m9 = mm := by rw [emm]; exact nI_clamp hmm
      refine lv_aload_n hx hb dX9_bribed_18 rfl (lv_at hl 0 rfl) ?_
      refine cg_X9_dawn (i := 0) hx hb hts hin9 hown hK hP ((hR 0 (0)).mpr Nat.zero_lt_one) (by decide +kernel) dX9_bribed_19 ?_
      refine lv_iload_n hx hb dX9_bribed_22 rfl (lv_at hl 1 rfl) ?_
      refine c_callip (ci := 3) (q := (RX3, TX3, 7)) (κ := 9) (i := 0) (As := [.int t]) (rest := []) ⟨hx, hb, hml, hown, hts⟩ (ctX3_rowsOf l D y ad x R qs nC nT hR t tt co ett htt hco) (cwV 1 hts gX9_bribed_X3_rowsOf rfl rfl rfl (by decide +kernel) ⟨Nat.le_of_ble_eq_true rfl, Nat.le_of_ble_eq_true rfl⟩) ((hR 9 (0)).mpr Nat.zero_lt_one) (fun _ _ _ => ⟨_, rfl⟩) rfl hE hK hP hD hS hA rfl hl.1 rfl (Nat.le_of_ble_eq_true rfl) dX9_bribed_23 ⟨Nat.zero_le _, Nat.zero_le _⟩ (fun H locs hP hD hS => ?_)
      refine lv_topi (fun x6_1 ex6_1 => ?_)
      refine lv_istore (lv' := [(6, .int x6_1), (0, .ref (ad 0 0)), (1, .int t), (2, .int w), (3, .long bits), (5, .int m9)]) hx hb dX9_bribed_26 hl (by decide) rfl (fun ls hl => ?_)
      subst ex6_1
      refine lv_lload_n hx hb dX9_bribed_28 rfl (lv_at hl 4 rfl) ?_
      refine lv_iload hx hb dX9_bribed_29 (lv_at hl 0 rfl) ?_
      refine s_calli (As := [.long bits, .int (nI (cMn co tt 5))]) (rest := []) ⟨hx, hb, hml, hown, hts⟩ (ctX0_fits l bits (cMn co tt 5) (by omega)) (va_cwS 2 hts gX9_bribed_X0_fits rfl rfl rfl (by decide +kernel) ⟨Nat.le_of_ble_eq_true rfl, Nat.le_of_ble_eq_true rfl⟩) hP hS rfl hl.1 rfl (Nat.le_of_ble_eq_true rfl) dX9_bribed_31 ⟨Nat.zero_le _, Nat.zero_le _⟩ (fun H locs hP hS => ?_)
      refine lv_if_ne (tgt := 41) hx hb dX9_bribed_34 (by decide) (fun c_34 => ?_) (fun c_34 => ?_)
      · have b34 : decide (uNat bits / 2 ^ (5 * min (cMn co tt 5) 12) = 0) = true := (zI_ne _).mp c_34
        have hft : uNat bits / 2 ^ (5 * min (cMn co tt 5) 12) = 0 := of_decide_eq_true b34
        have hnf := nzr_fit hft 12
        have hbr : nzr (bbr (uNat bits)) 12 ≤ cMn co tt 5 := Nat.le_trans hnf (Nat.min_le_left _ _)
        refine lv_aload_n hx hb dX9_bribed_41 rfl (lv_at hl 1 rfl) ?_
        refine cg_X9_bribes (i := 0) hx hb hts hin9 hown hK hP ((hR 0 (0)).mpr Nat.zero_lt_one) (by decide +kernel) dX9_bribed_42 ?_
        refine lv_iload hx hb dX9_bribed_45 (lv_at hl 0 rfl) ?_
        refine lv_iload_n hx hb dX9_bribed_47 rfl (lv_at hl 3 rfl) ?_
        refine lv_lload_n hx hb dX9_bribed_48 rfl (lv_at hl 4 rfl) ?_
        refine lv_iload hx hb dX9_bribed_49 (lv_at hl 5 rfl) ?_
        refine c_calll (ci := 0) (q := (RX0, TX0, 1)) (κ := 14) (i := 0) (As := [.int (nI (cMn co tt 5)), .int w, .long bits, .int m9]) (rest := []) ⟨hx, hb, hml, hown, hts⟩ (emm ▸ ctX0_waysWithAtLeast l D y ad x R qs nC nT hR w bits (cMn co tt 5) ww mm (uNat bits) h30t eww (by omega) hmm (uNat_l bits) (uNat_lt bits) hbr) (cwV 4 hts gX9_bribed_X0_waysWithAtLeast rfl rfl rfl (by decide +kernel) ⟨Nat.le_of_ble_eq_true rfl, Nat.le_of_ble_eq_true rfl⟩) ((hR 14 (0)).mpr Nat.zero_lt_one) (fun _ _ _ => ⟨_, rfl⟩) rfl hE hK hP hD hS hA rfl hl.1 rfl (Nat.le_of_ble_eq_true rfl) dX9_bribed_51 ⟨Nat.zero_le _, Nat.zero_le _⟩ (fun r_51 x1 H locs hq hP hD hS => ?_)
        exact c_retl hx hb hr hlocks hAe hK hP hD hS dX9_bribed_54 (⟨by rw [csBribed, if_pos (by rw [hst, b34, b6]; simp; exact c_11), hst, hsw, hsm, hq.1], hq.2⟩)
      · have b34 : decide (uNat bits / 2 ^ (5 * min (cMn co tt 5) 12) = 0) = false := (zI_eq _).mp c_34
        refine lv_ldc2 (v := (-2)) hx hb hown (hts (.constantLong RX9 175 (-2)) (by decide +kernel)) dX9_bribed_37 ?_
        exact c_retl hx hb hr hlocks hAe hK hP hD hS dX9_bribed_40 (⟨by rw [csBribed, if_neg (by rw [hst, b34]; simp)], ⟨rfl, rfl⟩⟩)
    · refine lv_ldc2 (v := (-2)) hx hb hown (hts (.constantLong RX9 175 (-2)) (by decide +kernel)) dX9_bribed_14 ?_
      exact c_retl hx hb hr hlocks hAe hK hP hD hS dX9_bribed_17 (⟨by rw [csBribed, if_neg (by simp [b6, c_11, Int32.not_le.mp c_11])], ⟨rfl, rfl⟩⟩)
def csChosen (x : cS) (q : Nat) (ch9 : Nat → Nat) (i : Int32) : Int32 := if isC q i then x.1 24 (ch9 (sI i)) 0 else -1
set_option maxHeartbeats 4000000 in
set_option maxRecDepth 100000 in
/-- chosen -/
theorem ctX9_chosen (l : Launch) (D : va_G) (y : Nat → ClassId) (ad : Nat → Nat → Nat) (x : cS) (R : List (Nat × Nat)) (qs : Nat → Nat × Nat) (nC nT : Nat) (hR : cHas R nC nT) (i : Int32) (q : Nat) (ch9 : Nat → Nat) (hq : x.1 9 0 5 = nI q) (hq1 : q ≤ 150) (hch : ∀ i, i < q → x.2.2 13 0 i = some (ch9 i) ∧ ch9 i < nC) : cMi l yX9_chosen wsX9_chosen ({ frames := 1, cells := 0, slots := 0, locals := 21 }) D y ad x R qs [.ref (ad 0 0), .int i] (fun r x' => r = csChosen x q ch9 i ∧ x' = x) := by
  refine cMi_of (cc := cX9_chosen) (maxL := 3) (ret := (some .int)) (by decide) rfl (Nat.le_of_ble_eq_true rfl) ?_
  intro p e s m below meth c A ls hat hAe hl
  obtain ⟨hx, hb, hr, hml, hts, hown, hlocks, hK, hP, hD, hA, hE⟩ := hat
  have hown : s.vm.findClass RX9 = some m.cls := hown
  have hin9 : ∀ w ∈ wsX90, w ∈ wsX9_chosen := fun _ h9 => List.mem_cons_of_mem _ (List.mem_append_left _ (List.mem_append_left _ (List.mem_append_right _ h9)))
  have hin1 : ∀ w ∈ wsX10, w ∈ wsX9_chosen := fun _ h9 => List.mem_cons_of_mem _ (List.mem_append_left _ (List.mem_append_right _ h9))
  have hin3 : ∀ w ∈ wsX30, w ∈ wsX9_chosen := fun _ h9 => List.mem_cons_of_mem _ (List.mem_append_right _ h9)
  have hl : lv_has ls 3 [(0, .ref (ad 0 0)), (1, .int i)] := hl
  have hS : va_S A s.heap s.heap [] := va_S.rf
  refine lv_aload_n hx hb dX9_chosen_0 rfl (lv_at hl 0 rfl) ?_
  refine cg_X9_dawn (i := 0) hx hb hts hin9 hown hK hP ((hR 0 (0)).mpr Nat.zero_lt_one) (by decide +kernel) dX9_chosen_1 ?_
  refine lv_iload_n hx hb dX9_chosen_4 rfl (lv_at hl 1 rfl) ?_
  refine c_callep (ci := 3) (q := (RX3, TX3, 7)) (κ := 9) (i := 0) (As := [.int i]) (rest := []) ⟨hx, hb, hml, hown, hts⟩ (ctX3_chosenAt l D y ad x R qs nC nT hR i q ch9 hq hq1 hch) (cwV 1 hts gX9_chosen_X3_chosenAt rfl rfl rfl (by decide +kernel) ⟨Nat.le_of_ble_eq_true rfl, Nat.le_of_ble_eq_true rfl⟩) ((hR 9 (0)).mpr Nat.zero_lt_one) (fun _ _ _ => ⟨_, rfl⟩) rfl hE hK hP hD hS hA rfl hl.1 rfl (Nat.le_of_ble_eq_true rfl) dX9_chosen_5 ⟨Nat.zero_le _, Nat.zero_le _⟩ (fun H locs hP hD hS => ?_)
  refine lv_re (fun e_5 => ?_) (fun c9 e_5 => ?_)
  · have b5 : isC q i = false := by by_cases h9 : isC q i = true; rw [if_pos h9] at e_5; cases e_5; exact Bool.eq_false_iff.mpr h9
    refine lv_astore_nN (lv' := [(2, .null), (0, .ref (ad 0 0)), (1, .int i)]) hx hb dX9_chosen_8 rfl hl (by decide) rfl (fun ls hl => ?_)
    refine lv_aload_nN hx hb dX9_chosen_9 rfl (lv_at hl 0 rfl) ?_
    refine lv_ifnonnullN hx hb dX9_chosen_10 ?_
    refine lv_iconst (v := (-1)) hx hb dX9_chosen_13 (by decide) ?_
    refine lv_goto (tgt := 21) hx hb dX9_chosen_14 (by decide) ?_
    exact c_reti hx hb hr hlocks hAe hK hP hD hS rfl dX9_chosen_21 (⟨by rw [csChosen, if_neg (by rw [b5]; decide)], rfl⟩)
  · obtain ⟨b5, hc9, ec9⟩ : isC q i = true ∧ ch9 (sI i) < nC ∧ c9 = ch9 (sI i) := by by_cases h9 : isC q i = true; rw [if_pos h9] at e_5; obtain ⟨c8, hc8, e8⟩ := (inR_c (show q < 2 ^ 31 by omega)).mp h9; exact ⟨h9, (hch (sI i) (by rw [e8]; show (nI c8).toNatClampNeg < q; rw [nI_clamp (by omega)]; exact hc8)).2, (Option.some.inj e_5).symm⟩; rw [if_neg h9] at e_5; cases e_5
    rw [ec9]
    refine lv_astore_n (lv' := [(2, .ref (ad 24 (ch9 (sI i)))), (0, .ref (ad 0 0)), (1, .int i)]) hx hb dX9_chosen_8 rfl hl (by decide) rfl (fun ls hl => ?_)
    refine lv_aload_n hx hb dX9_chosen_9 rfl (lv_at hl 0 rfl) ?_
    refine lv_ifnonnull (tgt := 17) hx hb dX9_chosen_10 (by decide) ?_
    refine lv_aload_n hx hb dX9_chosen_17 rfl (lv_at hl 0 rfl) ?_
    refine cg_X1_number (i := ch9 (sI i)) hx hb hts hin1 hown hK hP ((hR 24 (ch9 (sI i))).mpr hc9) (by decide +kernel) dX9_chosen_18 ?_
    exact c_reti hx hb hr hlocks hAe hK hP hD hS rfl dX9_chosen_21 (⟨by rw [csChosen, if_pos b5], rfl⟩)
