/-! the landed program: its calls on courts -/
def csOpen (x : cS) (k q : Int32) : Int32 × cS := if isK k = true ∧ ¬ q < 1 ∧ ¬ 25 < q ∧ ¬ q - q / 2 * 2 = 0 then (if 0 < x.1 18 (sI k) 2 then (-4, x) else (q, cI x 18 (sI k) 2 q)) else (-2, x)
set_option maxHeartbeats 4000000 in
set_option maxRecDepth 100000 in
/-- open_ -/
theorem ctX9_open (l : Launch) (D : va_G) (y : Nat → ClassId) (ad : Nat → Nat → Nat) (x : cS) (R : List (Nat × Nat)) (qs : Nat → Nat × Nat) (nC nT : Nat) (hR : cHas R nC nT) (k q : Int32) : cMi l yX9_open wsX9_open ({ frames := 1, cells := 0, slots := 0, locals := 21 }) D y ad x R qs [.ref (ad 0 0), .int k, .int q] (fun r x' => (r, x') = csOpen x k q) := by
  refine cMi_of (cc := cX9_open) (maxL := 4) (ret := (some .int)) (by decide) rfl (Nat.le_of_ble_eq_true rfl) ?_
  intro p e s m below meth c A ls hat hAe hl
  obtain ⟨hx, hb, hr, hml, hts, hown, hlocks, hK, hP, hD, hA, hE⟩ := hat
  have hown : s.vm.findClass RX9 = some m.cls := hown
  have hin2 : ∀ w ∈ wsX20, w ∈ wsX9_open := fun _ h9 => List.mem_cons_of_mem _ (List.mem_append_left _ (List.mem_append_right _ h9))
  have hin9 : ∀ w ∈ wsX90, w ∈ wsX9_open := fun _ h9 => List.mem_cons_of_mem _ (List.mem_append_right _ h9)
  have hl : lv_has ls 4 [(0, .ref (ad 0 0)), (1, .int k), (2, .int q)] := hl
  have hS : va_S A s.heap s.heap [] := va_S.rf
  refine lv_aload_n hx hb dX9_open_0 rfl (lv_at hl 0 rfl) ?_
  refine lv_iload_n hx hb dX9_open_1 rfl (lv_at hl 1 rfl) ?_
  refine c_callep (ci := 9) (q := (RX9, TX9, 11)) (κ := 0) (i := 0) (As := [.int k]) (rest := []) ⟨hx, hb, hml, hown, hts⟩ (ctX9_courtAt l D y ad x R qs nC nT hR (k)) (cwV 1 hts gX9_open_X9_courtAt rfl rfl rfl (by decide +kernel) ⟨Nat.le_of_ble_eq_true rfl, Nat.le_of_ble_eq_true rfl⟩) ((hR 0 (0)).mpr Nat.zero_lt_one) (fun _ _ _ => ⟨_, rfl⟩) rfl hE hK hP hD hS hA rfl hl.1 rfl (Nat.le_of_ble_eq_true rfl) dX9_open_2 ⟨Nat.zero_le _, Nat.zero_le _⟩ (fun H locs hP hD hS => ?_)
  refine lv_re (fun e_2 => ?_) (fun k9 e_2 => ?_)
  · have bk : isK (k) = false := crtF_n e_2
    refine lv_astore_nN (lv' := [(3, .null), (0, .ref (ad 0 0)), (1, .int k), (2, .int q)]) hx hb dX9_open_5 rfl hl (by decide) rfl (fun ls hl => ?_)
    refine lv_aload_nN hx hb dX9_open_6 rfl (lv_at hl 0 rfl) ?_
    refine lv_ifnullN (tgt := 27) hx hb dX9_open_7 (by decide) ?_
    refine lv_bipush (v := (-2)) hx hb dX9_open_27 (by decide) ?_
    exact c_reti hx hb hr hlocks hAe hK hP hD hS rfl dX9_open_29 (by rw [csOpen, if_neg (by simp [bk, e_2])])
  · obtain ⟨bk, hbk, ebk⟩ := crtF_s e_2
    rw [ebk]
    refine lv_astore_n (lv' := [(3, .ref (ad 18 (sI k))), (0, .ref (ad 0 0)), (1, .int k), (2, .int q)]) hx hb dX9_open_5 rfl hl (by decide) rfl (fun ls hl => ?_)
    refine lv_aload_n hx hb dX9_open_6 rfl (lv_at hl 0 rfl) ?_
    refine lv_ifnull hx hb dX9_open_7 ?_
    refine lv_iload_n hx hb dX9_open_10 rfl (lv_at hl 3 rfl) ?_
    refine lv_iconst (v := 1) hx hb dX9_open_11 (by decide) ?_
    refine lv_icmp_lt (tgt := 27) hx hb dX9_open_12 (by decide) (fun c_12 => ?_) (fun c_12 => ?_)
    · refine lv_bipush (v := (-2)) hx hb dX9_open_27 (by decide) ?_
      exact c_reti hx hb hr hlocks hAe hK hP hD hS rfl dX9_open_29 (by rw [csOpen, if_neg (by simp [bk, e_2, c_12, Int32.not_le.mpr c_12])])
    · refine lv_iload_n hx hb dX9_open_15 rfl (lv_at hl 3 rfl) ?_
      refine lv_bipush (v := 25) hx hb dX9_open_16 (by decide) ?_
      refine lv_icmp_gt (tgt := 27) hx hb dX9_open_18 (by decide) (fun c_18 => ?_) (fun c_18 => ?_)
      · refine lv_bipush (v := (-2)) hx hb dX9_open_27 (by decide) ?_
        exact c_reti hx hb hr hlocks hAe hK hP hD hS rfl dX9_open_29 (by rw [csOpen, if_neg (by simp [bk, e_2, c_12, Int32.not_lt.mp c_12, c_18, Int32.not_le.mpr c_18])])
      · refine lv_iload_n hx hb dX9_open_21 rfl (lv_at hl 3 rfl) ?_
        refine lv_iconst (v := 2) hx hb dX9_open_22 (by decide) ?_
        refine lv_irem hx hb dX9_open_23 (by decide) ?_
        refine lv_if_ne (tgt := 30) hx hb dX9_open_24 (by decide) (fun c_24 => ?_) (fun c_24 => ?_)
        · refine lv_aload_n hx hb dX9_open_30 rfl (lv_at hl 0 rfl) ?_
          refine cg_X2_size (i := sI k) hx hb hts hin2 hown hK hP ((hR 18 (sI k)).mpr hbk) (by decide +kernel) dX9_open_31 ?_
          refine lv_if_le (tgt := 40) hx hb dX9_open_34 (by decide) (fun c_34 => ?_) (fun c_34 => ?_)
          · refine lv_aload_n hx hb dX9_open_40 rfl (lv_at hl 0 rfl) ?_
            refine lv_iload_n hx hb dX9_open_41 rfl (lv_at hl 3 rfl) ?_
            refine cp_X2_size (i := sI k) hx hb hts hin2 hown hK hP hD hS ((hR 18 (sI k)).mpr hbk) (by decide +kernel) dX9_open_42 (fun H locs hP hD hS => ?_)
            refine lv_iload_n hx hb dX9_open_45 rfl (lv_at hl 3 rfl) ?_
            exact c_reti hx hb hr hlocks hAe hK hP hD hS rfl dX9_open_46 (by rw [csOpen, if_pos ⟨bk, c_12, c_18, c_24⟩, if_neg (Int32.not_lt.mpr c_34)])
          · refine lv_bipush (v := (-4)) hx hb dX9_open_37 (by decide) ?_
            exact c_reti hx hb hr hlocks hAe hK hP hD hS rfl dX9_open_39 (by rw [csOpen, if_pos ⟨bk, c_12, c_18, c_24⟩, if_pos (Int32.not_le.mp c_34)])
        · refine lv_bipush (v := (-2)) hx hb dX9_open_27 (by decide) ?_
          exact c_reti hx hb hr hlocks hAe hK hP hD hS rfl dX9_open_29 (by rw [csOpen, if_neg (by simp [bk, e_2, c_12, Int32.not_lt.mp c_12, c_18, Int32.not_lt.mp c_18, c_24])])
def cLt1 (x : cS) (c : Nat) (k : Int32) : cS := cI (cI x 9 0 6 (x.1 9 0 6 + 1)) 24 c 9 k
def csLot (x : cS) (q : Nat) (ch9 ns : Nat → Nat) (k : Int32) : Int32 × cS := if isK k then (if x.1 18 (sI k) 2 = 0 ∨ x.1 18 (sI k) 2 ≤ x.1 18 (sI k) 3 then (-4, x) else if isC q (x.1 9 0 6) then (x.1 24 (ch9 (sI (x.1 9 0 6))) 0, (if ns (sI k) < 25 then cI (cI (cLt1 x (ch9 (sI (x.1 9 0 6))) k) 19 (sI k) (ns (sI k)) (x.1 24 (ch9 (sI (x.1 9 0 6))) 0)) 18 (sI k) 3 (nI (ns (sI k) + 1)) else cLt1 x (ch9 (sI (x.1 9 0 6))) k)) else (-1, x)) else (-2, x)
set_option maxHeartbeats 4000000 in
set_option maxRecDepth 100000 in
/-- lot -/
theorem ctX9_lot (l : Launch) (D : va_G) (y : Nat → ClassId) (ad : Nat → Nat → Nat) (x : cS) (R : List (Nat × Nat)) (qs : Nat → Nat × Nat) (nC nT : Nat) (hR : cHas R nC nT) (k : Int32) (q : Nat) (ch9 ns : Nat → Nat) (hq : x.1 9 0 5 = nI q) (hq1 : q ≤ 150) (hch : ∀ i, i < q → x.2.2 13 0 i = some (ch9 i) ∧ ch9 i < nC) (hns : ∀ k, k < 5 → x.1 18 k 3 = nI (ns k) ∧ ns k ≤ 25) : cMi l yX9_lot wsX9_lot ({ frames := 1, cells := 0, slots := 0, locals := 21 }) D y ad x R qs [.ref (ad 0 0), .int k] (fun r x' => (r, x') = csLot x q ch9 ns k) := by
  refine cMi_of (cc := cX9_lot) (maxL := 4) (ret := (some .int)) (by decide) rfl (Nat.le_of_ble_eq_true rfl) ?_
  intro p e s m below meth c A ls hat hAe hl
  obtain ⟨hx, hb, hr, hml, hts, hown, hlocks, hK, hP, hD, hA, hE⟩ := hat
  have hown : s.vm.findClass RX9 = some m.cls := hown
  have hin2 : ∀ w ∈ wsX20, w ∈ wsX9_lot := fun _ h9 => List.mem_cons_of_mem _ (List.mem_append_left _ (List.mem_append_left _ (List.mem_append_left _ (List.mem_append_right _ h9))))
  have hin9 : ∀ w ∈ wsX90, w ∈ wsX9_lot := fun _ h9 => List.mem_cons_of_mem _ (List.mem_append_left _ (List.mem_append_left _ (List.mem_append_right _ h9)))
  have hin3 : ∀ w ∈ wsX30, w ∈ wsX9_lot := fun _ h9 => List.mem_cons_of_mem _ (List.mem_append_left _ (List.mem_append_right _ h9))
  have hin1 : ∀ w ∈ wsX10, w ∈ wsX9_lot := fun _ h9 => List.mem_cons_of_mem _ (List.mem_append_right _ h9)
  have hl : lv_has ls 4 [(0, .ref (ad 0 0)), (1, .int k)] := hl
  have hS : va_S A s.heap s.heap [] := va_S.rf
  refine lv_aload_n hx hb dX9_lot_0 rfl (lv_at hl 0 rfl) ?_
  refine lv_iload_n hx hb dX9_lot_1 rfl (lv_at hl 1 rfl) ?_
  refine c_callep (ci := 9) (q := (RX9, TX9, 11)) (κ := 0) (i := 0) (As := [.int k]) (rest := []) ⟨hx, hb, hml, hown, hts⟩ (ctX9_courtAt l D y ad x R qs nC nT hR (k)) (cwV 1 hts gX9_lot_X9_courtAt rfl rfl rfl (by decide +kernel) ⟨Nat.le_of_ble_eq_true rfl, Nat.le_of_ble_eq_true rfl⟩) ((hR 0 (0)).mpr Nat.zero_lt_one) (fun _ _ _ => ⟨_, rfl⟩) rfl hE hK hP hD hS hA rfl hl.1 rfl (Nat.le_of_ble_eq_true rfl) dX9_lot_2 ⟨Nat.zero_le _, Nat.zero_le _⟩ (fun H locs hP hD hS => ?_)
  refine lv_re (fun e_2 => ?_) (fun k9 e_2 => ?_)
  · have bk : isK (k) = false := crtF_n e_2
    refine lv_astore_nN (lv' := [(2, .null), (0, .ref (ad 0 0)), (1, .int k)]) hx hb dX9_lot_5 rfl hl (by decide) rfl (fun ls hl => ?_)
    refine lv_aload_nN hx hb dX9_lot_6 rfl (lv_at hl 0 rfl) ?_
    refine lv_ifnonnullN hx hb dX9_lot_7 ?_
    refine lv_bipush (v := (-2)) hx hb dX9_lot_10 (by decide) ?_
    exact c_reti hx hb hr hlocks hAe hK hP hD hS rfl dX9_lot_12 (by rw [csLot, if_neg (by rw [bk]; decide)])
  · obtain ⟨bk, hbk, ebk⟩ := crtF_s e_2
    rw [ebk]
    refine lv_astore_n (lv' := [(2, .ref (ad 18 (sI k))), (0, .ref (ad 0 0)), (1, .int k)]) hx hb dX9_lot_5 rfl hl (by decide) rfl (fun ls hl => ?_)
    refine lv_aload_n hx hb dX9_lot_6 rfl (lv_at hl 0 rfl) ?_
    refine lv_ifnonnull (tgt := 13) hx hb dX9_lot_7 (by decide) ?_
    refine lv_aload_n hx hb dX9_lot_13 rfl (lv_at hl 0 rfl) ?_
    refine cg_X2_size (i := sI k) hx hb hts hin2 hown hK hP ((hR 18 (sI k)).mpr hbk) (by decide +kernel) dX9_lot_14 ?_
    refine lv_if_eq (tgt := 27) hx hb dX9_lot_17 (by decide) (fun c_17 => ?_) (fun c_17 => ?_)
    · refine lv_bipush (v := (-4)) hx hb dX9_lot_27 (by decide) ?_
      exact c_reti hx hb hr hlocks hAe hK hP hD hS rfl dX9_lot_29 (by rw [csLot, if_pos bk, if_pos (by simp [c_17])])
    · refine lv_aload_n hx hb dX9_lot_20 rfl (lv_at hl 0 rfl) ?_
      refine c_callip (ci := 2) (q := (RX2, TX2, 4)) (κ := 18) (i := sI k) (As := []) (rest := []) ⟨hx, hb, hml, hown, hts⟩ (ctX2_isFull l D y ad x R qs nC nT hR (sI k) hbk) (cwV 0 hts gX9_lot_X2_isFull rfl rfl rfl (by decide +kernel) ⟨Nat.le_of_ble_eq_true rfl, Nat.le_of_ble_eq_true rfl⟩) ((hR 18 (sI k)).mpr hbk) (fun _ _ _ => ⟨_, rfl⟩) rfl hE hK hP hD hS hA rfl hl.1 rfl (Nat.le_of_ble_eq_true rfl) dX9_lot_21 ⟨Nat.zero_le _, Nat.zero_le _⟩ (fun H locs hP hD hS => ?_)
      refine lv_if_eq (tgt := 30) hx hb dX9_lot_24 (by decide) (fun c_24 => ?_) (fun c_24 => ?_)
      · have b24 : decide (x.1 18 (sI k) 2 ≤ x.1 18 (sI k) 3) = false := (zI_eq _).mp c_24
        have b24 := of_decide_eq_false b24
        refine lv_aload_n hx hb dX9_lot_30 rfl (lv_at hl 1 rfl) ?_
        refine cg_X9_dawn (i := 0) hx hb hts hin9 hown hK hP ((hR 0 (0)).mpr Nat.zero_lt_one) (by decide +kernel) dX9_lot_31 ?_
        refine lv_aload_n hx hb dX9_lot_34 rfl (lv_at hl 1 rfl) ?_
        refine cg_X9_dawn (i := 0) hx hb hts hin9 hown hK hP ((hR 0 (0)).mpr Nat.zero_lt_one) (by decide +kernel) dX9_lot_35 ?_
        refine cg_X3_lots (i := 0) hx hb hts hin3 hown hK hP ((hR 9 (0)).mpr Nat.zero_lt_one) (by decide +kernel) dX9_lot_38 ?_
        refine c_callep (ci := 3) (q := (RX3, TX3, 7)) (κ := 9) (i := 0) (As := [.int (x.1 9 0 6)]) (rest := []) ⟨hx, hb, hml, hown, hts⟩ (ctX3_chosenAt l D y ad x R qs nC nT hR (x.1 9 0 6) q ch9 hq hq1 hch) (cwV 1 hts gX9_lot_X3_chosenAt rfl rfl rfl (by decide +kernel) ⟨Nat.le_of_ble_eq_true rfl, Nat.le_of_ble_eq_true rfl⟩) ((hR 9 (0)).mpr Nat.zero_lt_one) (fun _ _ _ => ⟨_, rfl⟩) rfl hE hK hP hD hS hA rfl hl.1 rfl (Nat.le_of_ble_eq_true rfl) dX9_lot_41 ⟨Nat.zero_le _, Nat.zero_le _⟩ (fun H locs hP hD hS => ?_)
        refine lv_re (fun e_41 => ?_) (fun c9 e_41 => ?_)
        · have b5 : isC q (x.1 9 0 6) = false := by by_cases h9 : isC q (x.1 9 0 6) = true; rw [if_pos h9] at e_41; cases e_41; exact Bool.eq_false_iff.mpr h9
          refine lv_astore_nN (lv' := [(3, .null), (2, .ref (ad 18 (sI k))), (0, .ref (ad 0 0)), (1, .int k)]) hx hb dX9_lot_44 rfl hl (by decide) rfl (fun ls hl => ?_)
          refine lv_aload_nN hx hb dX9_lot_45 rfl (lv_at hl 0 rfl) ?_
          refine lv_ifnonnullN hx hb dX9_lot_46 ?_
          refine lv_iconst (v := (-1)) hx hb dX9_lot_49 (by decide) ?_
          exact c_reti hx hb hr hlocks hAe hK hP hD hS rfl dX9_lot_50 (by rw [csLot, if_pos bk, if_neg (by simp [c_17, b24]), if_neg (by rw [b5]; decide)])
        · obtain ⟨b5, hc9, ec9⟩ : isC q (x.1 9 0 6) = true ∧ ch9 (sI (x.1 9 0 6)) < nC ∧ c9 = ch9 (sI (x.1 9 0 6)) := by by_cases h9 : isC q (x.1 9 0 6) = true; rw [if_pos h9] at e_41; obtain ⟨c8, hc8, e8⟩ := (inR_c (show q < 2 ^ 31 by omega)).mp h9; exact ⟨h9, (hch (sI (x.1 9 0 6)) (by rw [e8]; show (nI c8).toNatClampNeg < q; rw [nI_clamp (by omega)]; exact hc8)).2, (Option.some.inj e_41).symm⟩; rw [if_neg h9] at e_41; cases e_41
          rw [ec9]
          refine lv_astore_n (lv' := [(3, .ref (ad 24 (ch9 (sI (x.1 9 0 6))))), (2, .ref (ad 18 (sI k))), (0, .ref (ad 0 0)), (1, .int k)]) hx hb dX9_lot_44 rfl hl (by decide) rfl (fun ls hl => ?_)
          refine lv_aload_n hx hb dX9_lot_45 rfl (lv_at hl 0 rfl) ?_
          refine lv_ifnonnull (tgt := 51) hx hb dX9_lot_46 (by decide) ?_
          refine lv_aload_n hx hb dX9_lot_51 rfl (lv_at hl 2 rfl) ?_
          refine cg_X9_dawn (i := 0) hx hb hts hin9 hown hK hP ((hR 0 (0)).mpr Nat.zero_lt_one) (by decide +kernel) dX9_lot_52 ?_
          refine lv_dup hx hb dX9_lot_55 rfl ?_
          refine cg_X3_lots (i := 0) hx hb hts hin3 hown hK hP ((hR 9 (0)).mpr Nat.zero_lt_one) (by decide +kernel) dX9_lot_56 ?_
          refine lv_iconst (v := 1) hx hb dX9_lot_59 (by decide) ?_
          refine lv_iadd hx hb dX9_lot_60 ?_
          refine cp_X3_lots (i := 0) hx hb hts hin3 hown hK hP hD hS ((hR 9 (0)).mpr Nat.zero_lt_one) (by decide +kernel) dX9_lot_61 (fun H locs hP hD hS => ?_)
          refine lv_aload_n hx hb dX9_lot_64 rfl (lv_at hl 0 rfl) ?_
          refine lv_iload_n hx hb dX9_lot_65 rfl (lv_at hl 3 rfl) ?_
          refine cp_X1_court (i := ch9 (sI (x.1 9 0 6))) hx hb hts hin1 hown hK hP hD hS ((hR 24 (ch9 (sI (x.1 9 0 6)))).mpr hc9) (by decide +kernel) dX9_lot_66 (fun H locs hP hD hS => ?_)
          have hP : va_P D vwCl (cW ad y (cLt1 x (ch9 (sI (x.1 9 0 6))) k) R) H := hP
          have hD : va_D A (cW ad y (cLt1 x (ch9 (sI (x.1 9 0 6))) k) R) := hD
          refine lv_aload_n hx hb dX9_lot_69 rfl (lv_at hl 1 rfl) ?_
          refine lv_aload_n hx hb dX9_lot_70 rfl (lv_at hl 0 rfl) ?_
          refine cg_X1_number (i := ch9 (sI (x.1 9 0 6))) hx hb hts hin1 hown hK hP ((hR 24 (ch9 (sI (x.1 9 0 6)))).mpr hc9) (by decide +kernel) dX9_lot_71 ?_
          rw [show (cLt1 x (ch9 (sI (x.1 9 0 6))) k).1 24 (ch9 (sI (x.1 9 0 6))) 0 = x.1 24 (ch9 (sI (x.1 9 0 6))) 0 by simp [cLt1, cI_r]]
          refine c_callv (ci := 2) (q := (RX2, TX2, 4)) (κ := 18) (i := sI k) (As := [.int (x.1 24 (ch9 (sI (x.1 9 0 6))) 0)]) (rest := []) ⟨hx, hb, hml, hown, hts⟩ (ctX2_take l D y ad (cLt1 x (ch9 (sI (x.1 9 0 6))) k) R qs nC nT hR (sI k) (x.1 24 (ch9 (sI (x.1 9 0 6))) 0) (ns (sI k)) hbk (by simp [cLt1, cI_r, (hns _ hbk).1]) (hns _ hbk).2) (cwV 1 hts gX9_lot_X2_take rfl rfl rfl (by decide +kernel) ⟨Nat.le_of_ble_eq_true rfl, Nat.le_of_ble_eq_true rfl⟩) ((hR 18 (sI k)).mpr hbk) (fun _ _ _ => ⟨_, rfl⟩) rfl hE hK hP hD hS hA rfl hl.1 rfl (Nat.le_of_ble_eq_true rfl) dX9_lot_74 ⟨Nat.zero_le _, Nat.zero_le _⟩ (fun x1 H locs hq9 hP hD hS => ?_)
          refine lv_aload_n hx hb dX9_lot_77 rfl (lv_at hl 0 rfl) ?_
          refine cg_X1_number (i := ch9 (sI (x.1 9 0 6))) hx hb hts hin1 hown hK hP ((hR 24 (ch9 (sI (x.1 9 0 6)))).mpr hc9) (by decide +kernel) dX9_lot_78 ?_
          exact c_reti hx hb hr hlocks hAe hK hP hD hS rfl dX9_lot_81 (by rw [csLot, if_pos bk, if_neg (by simp [c_17, b24]), if_pos b5, hq9]; refine Prod.ext ?_ rfl; show _ = x.1 24 (ch9 (sI (x.1 9 0 6))) 0; split <;> simp [cLt1, cI_r])
      · have b24 : decide (x.1 18 (sI k) 2 ≤ x.1 18 (sI k) 3) = true := (zI_ne _).mp c_24
        have b24 := of_decide_eq_true b24
        refine lv_bipush (v := (-4)) hx hb dX9_lot_27 (by decide) ?_
        exact c_reti hx hb hr hlocks hAe hK hP hD hS rfl dX9_lot_29 (by rw [csLot, if_pos bk, if_pos (by simp [b24])])
def csSeat (x : cS) (ns : Nat → Nat) (k i : Int32) : Int32 := if isK k then (if isC (ns (sI k)) i then x.1 19 (sI k) (sI i) else -1) else -1
set_option maxHeartbeats 4000000 in
set_option maxRecDepth 100000 in
/-- seat -/
theorem ctX9_seat (l : Launch) (D : va_G) (y : Nat → ClassId) (ad : Nat → Nat → Nat) (x : cS) (R : List (Nat × Nat)) (qs : Nat → Nat × Nat) (nC nT : Nat) (hR : cHas R nC nT) (k i : Int32) (ns : Nat → Nat) (hns : ∀ k, k < 5 → x.1 18 k 3 = nI (ns k) ∧ ns k ≤ 25) : cMi l yX9_seat wsX9_seat ({ frames := 1, cells := 0, slots := 0, locals := 21 }) D y ad x R qs [.ref (ad 0 0), .int k, .int i] (fun r x' => r = csSeat x ns k i ∧ x' = x) := by
  refine cMi_of (cc := cX9_seat) (maxL := 4) (ret := (some .int)) (by decide) rfl (Nat.le_of_ble_eq_true rfl) ?_
  intro p e s m below meth c A ls hat hAe hl
  obtain ⟨hx, hb, hr, hml, hts, hown, hlocks, hK, hP, hD, hA, hE⟩ := hat
  have hown : s.vm.findClass RX9 = some m.cls := hown
  have hin9 : ∀ w ∈ wsX90, w ∈ wsX9_seat := fun _ h9 => List.mem_cons_of_mem _ (List.mem_append_left _ (List.mem_append_right _ h9))
  have hin2 : ∀ w ∈ wsX20, w ∈ wsX9_seat := fun _ h9 => List.mem_cons_of_mem _ (List.mem_append_right _ h9)
  have hl : lv_has ls 4 [(0, .ref (ad 0 0)), (1, .int k), (2, .int i)] := hl
  have hS : va_S A s.heap s.heap [] := va_S.rf
  refine lv_aload_n hx hb dX9_seat_0 rfl (lv_at hl 0 rfl) ?_
  refine lv_iload_n hx hb dX9_seat_1 rfl (lv_at hl 1 rfl) ?_
  refine c_callep (ci := 9) (q := (RX9, TX9, 11)) (κ := 0) (i := 0) (As := [.int k]) (rest := []) ⟨hx, hb, hml, hown, hts⟩ (ctX9_courtAt l D y ad x R qs nC nT hR (k)) (cwV 1 hts gX9_seat_X9_courtAt rfl rfl rfl (by decide +kernel) ⟨Nat.le_of_ble_eq_true rfl, Nat.le_of_ble_eq_true rfl⟩) ((hR 0 (0)).mpr Nat.zero_lt_one) (fun _ _ _ => ⟨_, rfl⟩) rfl hE hK hP hD hS hA rfl hl.1 rfl (Nat.le_of_ble_eq_true rfl) dX9_seat_2 ⟨Nat.zero_le _, Nat.zero_le _⟩ (fun H locs hP hD hS => ?_)
  refine lv_re (fun e_2 => ?_) (fun k9 e_2 => ?_)
  · have bk : isK (k) = false := crtF_n e_2
    refine lv_astore_nN (lv' := [(3, .null), (0, .ref (ad 0 0)), (1, .int k), (2, .int i)]) hx hb dX9_seat_5 rfl hl (by decide) rfl (fun ls hl => ?_)
    refine lv_aload_nN hx hb dX9_seat_6 rfl (lv_at hl 0 rfl) ?_
    refine lv_ifnonnullN hx hb dX9_seat_7 ?_
    refine lv_iconst (v := (-1)) hx hb dX9_seat_10 (by decide) ?_
    refine lv_goto (tgt := 19) hx hb dX9_seat_11 (by decide) ?_
    exact c_reti hx hb hr hlocks hAe hK hP hD hS rfl dX9_seat_19 (⟨by rw [csSeat, if_neg (by rw [bk]; decide)], rfl⟩)
  · obtain ⟨bk, hbk, ebk⟩ := crtF_s e_2
    rw [ebk]
    refine lv_astore_n (lv' := [(3, .ref (ad 18 (sI k))), (0, .ref (ad 0 0)), (1, .int k), (2, .int i)]) hx hb dX9_seat_5 rfl hl (by decide) rfl (fun ls hl => ?_)
    refine lv_aload_n hx hb dX9_seat_6 rfl (lv_at hl 0 rfl) ?_
    refine lv_ifnonnull (tgt := 14) hx hb dX9_seat_7 (by decide) ?_
    refine lv_aload_n hx hb dX9_seat_14 rfl (lv_at hl 0 rfl) ?_
    refine lv_iload_n hx hb dX9_seat_15 rfl (lv_at hl 3 rfl) ?_
    refine c_callip (ci := 2) (q := (RX2, TX2, 4)) (κ := 18) (i := sI k) (As := [.int i]) (rest := []) ⟨hx, hb, hml, hown, hts⟩ (ctX2_sitterAt l D y ad x R qs nC nT hR (sI k) i (ns (sI k)) hbk (hns _ hbk).1 (hns _ hbk).2) (cwV 1 hts gX9_seat_X2_sitterAt rfl rfl rfl (by decide +kernel) ⟨Nat.le_of_ble_eq_true rfl, Nat.le_of_ble_eq_true rfl⟩) ((hR 18 (sI k)).mpr hbk) (fun _ _ _ => ⟨_, rfl⟩) rfl hE hK hP hD hS hA rfl hl.1 rfl (Nat.le_of_ble_eq_true rfl) dX9_seat_16 ⟨Nat.zero_le _, Nat.zero_le _⟩ (fun H locs hP hD hS => ?_)
    exact c_reti hx hb hr hlocks hAe hK hP hD hS rfl dX9_seat_19 (⟨by rw [csSeat, if_pos bk], rfl⟩)
def csSpeak (x : cS) (k sd q : Int32) : Int32 × cS := if isK k = true ∧ ¬ sd < 0 ∧ ¬ 1 < sd ∧ ¬ q < 1 ∧ q ≤ 1000 then cHear x (sI k) (sI sd) sd q else (-2, x)
set_option maxHeartbeats 4000000 in
set_option maxRecDepth 100000 in
/-- speak -/
theorem ctX9_speak (l : Launch) (D : va_G) (y : Nat → ClassId) (ad : Nat → Nat → Nat) (x : cS) (R : List (Nat × Nat)) (qs : Nat → Nat × Nat) (nC nT : Nat) (hR : cHas R nC nT) (k sd q : Int32) : cMi l yX9_speak wsX9_speak ({ frames := 1, cells := 0, slots := 0, locals := 22 }) D y ad x R qs [.ref (ad 0 0), .int k, .int sd, .int q] (fun r x' => (r, x') = csSpeak x k sd q) := by
  refine cMi_of (cc := cX9_speak) (maxL := 5) (ret := (some .int)) (by decide) rfl (Nat.le_of_ble_eq_true rfl) ?_
  intro p e s m below meth c A ls hat hAe hl
  obtain ⟨hx, hb, hr, hml, hts, hown, hlocks, hK, hP, hD, hA, hE⟩ := hat
  have hown : s.vm.findClass RX9 = some m.cls := hown
  have hin2 : ∀ w ∈ wsX20, w ∈ wsX9_speak := fun _ h9 => List.mem_cons_of_mem _ (List.mem_append_left _ (List.mem_append_left _ (List.mem_append_right _ h9)))
  have hin9 : ∀ w ∈ wsX90, w ∈ wsX9_speak := fun _ h9 => List.mem_cons_of_mem _ (List.mem_append_left _ (List.mem_append_right _ h9))
  have hin7 : ∀ w ∈ wsX70, w ∈ wsX9_speak := fun _ h9 => List.mem_cons_of_mem _ (List.mem_append_right _ h9)
  have hl : lv_has ls 5 [(0, .ref (ad 0 0)), (1, .int k), (2, .int sd), (3, .int q)] := hl
  have hS : va_S A s.heap s.heap [] := va_S.rf
  refine lv_aload_n hx hb dX9_speak_0 rfl (lv_at hl 0 rfl) ?_
  refine lv_iload_n hx hb dX9_speak_1 rfl (lv_at hl 1 rfl) ?_
  refine c_callep (ci := 9) (q := (RX9, TX9, 11)) (κ := 0) (i := 0) (As := [.int k]) (rest := []) ⟨hx, hb, hml, hown, hts⟩ (ctX9_courtAt l D y ad x R qs nC nT hR (k)) (cwV 1 hts gX9_speak_X9_courtAt rfl rfl rfl (by decide +kernel) ⟨Nat.le_of_ble_eq_true rfl, Nat.le_of_ble_eq_true rfl⟩) ((hR 0 (0)).mpr Nat.zero_lt_one) (fun _ _ _ => ⟨_, rfl⟩) rfl hE hK hP hD hS hA rfl hl.1 rfl (Nat.le_of_ble_eq_true rfl) dX9_speak_2 ⟨Nat.zero_le _, Nat.zero_le _⟩ (fun H locs hP hD hS => ?_)
  refine lv_re (fun e_2 => ?_) (fun k9 e_2 => ?_)
  · have bk : isK (k) = false := crtF_n e_2
    refine lv_astoreN (lv' := [(4, .null), (0, .ref (ad 0 0)), (1, .int k), (2, .int sd), (3, .int q)]) hx hb dX9_speak_5 hl (by decide) rfl (fun ls hl => ?_)
    refine lv_aloadN hx hb dX9_speak_7 (lv_at hl 0 rfl) ?_
    refine lv_ifnullN (tgt := 33) hx hb dX9_speak_9 (by decide) ?_
    refine lv_bipush (v := (-2)) hx hb dX9_speak_33 (by decide) ?_
    exact c_reti hx hb hr hlocks hAe hK hP hD hS rfl dX9_speak_35 (by rw [csSpeak, if_neg (by simp [bk, e_2])])
  · obtain ⟨bk, hbk, ebk⟩ := crtF_s e_2
    rw [ebk]
    refine lv_astore (lv' := [(4, .ref (ad 18 (sI k))), (0, .ref (ad 0 0)), (1, .int k), (2, .int sd), (3, .int q)]) hx hb dX9_speak_5 hl (by decide) rfl (fun ls hl => ?_)
    refine lv_aload hx hb dX9_speak_7 (lv_at hl 0 rfl) ?_
    refine lv_ifnull hx hb dX9_speak_9 ?_
    refine lv_iload_n hx hb dX9_speak_12 rfl (lv_at hl 3 rfl) ?_
    refine lv_if_lt (tgt := 33) hx hb dX9_speak_13 (by decide) (fun c_13 => ?_) (fun c_13 => ?_)
    · refine lv_bipush (v := (-2)) hx hb dX9_speak_33 (by decide) ?_
      exact c_reti hx hb hr hlocks hAe hK hP hD hS rfl dX9_speak_35 (by rw [csSpeak, if_neg (by simp [bk, e_2, c_13, Int32.not_le.mpr c_13])])
    · refine lv_iload_n hx hb dX9_speak_16 rfl (lv_at hl 3 rfl) ?_
      refine lv_iconst (v := 1) hx hb dX9_speak_17 (by decide) ?_
      refine lv_icmp_gt (tgt := 33) hx hb dX9_speak_18 (by decide) (fun c_18 => ?_) (fun c_18 => ?_)
      · refine lv_bipush (v := (-2)) hx hb dX9_speak_33 (by decide) ?_
        exact c_reti hx hb hr hlocks hAe hK hP hD hS rfl dX9_speak_35 (by rw [csSpeak, if_neg (by simp [bk, e_2, c_13, Int32.not_lt.mp c_13, c_18, Int32.not_le.mpr c_18])])
      · obtain ⟨g1, hd2, hsd⟩ := isC_lt (n := 2) (t := sd) (by omega) c_13 (fun q9 => c_18 (by rw [show (1 : Int32) = nI 1 from rfl]; obtain ⟨j9, hj9, e9⟩ := nI_of c_13; rw [e9] at q9 ⊢; have := (nI_leI (a := 2) (by omega) hj9).mp q9; exact (nI_ltI (by omega) hj9).mpr (by omega)))
        refine lv_iload_n hx hb dX9_speak_21 rfl (lv_at hl 4 rfl) ?_
        refine lv_iconst (v := 1) hx hb dX9_speak_22 (by decide) ?_
        refine lv_icmp_lt (tgt := 33) hx hb dX9_speak_23 (by decide) (fun c_23 => ?_) (fun c_23 => ?_)
        · refine lv_bipush (v := (-2)) hx hb dX9_speak_33 (by decide) ?_
          exact c_reti hx hb hr hlocks hAe hK hP hD hS rfl dX9_speak_35 (by rw [csSpeak, if_neg (by simp [bk, e_2, c_13, Int32.not_lt.mp c_13, c_18, Int32.not_lt.mp c_18, c_23, Int32.not_le.mpr c_23])])
        · refine lv_iload_n hx hb dX9_speak_26 rfl (lv_at hl 4 rfl) ?_
          refine lv_sipush (v := 1000) hx hb dX9_speak_27 (by decide) ?_
          refine lv_icmp_le (tgt := 36) hx hb dX9_speak_30 (by decide) (fun c_30 => ?_) (fun c_30 => ?_)
          · refine lv_aload hx hb dX9_speak_36 (lv_at hl 0 rfl) ?_
            refine cg_X2_suit (i := sI k) hx hb hts hin2 hown hK hP ((hR 18 (sI k)).mpr hbk) (by decide +kernel) dX9_speak_38 ?_
            refine lv_iload_n hx hb dX9_speak_41 rfl (lv_at hl 3 rfl) ?_
            refine lv_iload_n hx hb dX9_speak_42 rfl (lv_at hl 4 rfl) ?_
            refine c_calli (ci := 7) (q := (RX7, TX7, 16)) (κ := 20) (i := sI k) (As := [.int sd, .int q]) (rest := []) ⟨hx, hb, hml, hown, hts⟩ (ctX7_hearWords l D y ad x R qs nC nT hR (sI k) (sI sd) sd q hbk hd2 hsd) (cwV 2 hts gX9_speak_X7_hearWords rfl rfl rfl (by decide +kernel) ⟨Nat.le_of_ble_eq_true rfl, Nat.le_of_ble_eq_true rfl⟩) ((hR 20 (sI k)).mpr hbk) (fun _ _ _ => ⟨_, rfl⟩) rfl hE hK hP hD hS hA rfl hl.1 rfl (Nat.le_of_ble_eq_true rfl) dX9_speak_43 ⟨Nat.zero_le _, Nat.zero_le _⟩ (fun r_43 x1 H locs hq hP hD hS => ?_)
            exact c_reti hx hb hr hlocks hAe hK hP hD hS rfl dX9_speak_46 (by rw [csSpeak, if_pos ⟨bk, c_13, c_18, c_23, c_30⟩]; exact hq)
          · refine lv_bipush (v := (-2)) hx hb dX9_speak_33 (by decide) ?_
            exact c_reti hx hb hr hlocks hAe hK hP hD hS rfl dX9_speak_35 (by rw [csSpeak, if_neg (by simp [bk, e_2, c_13, Int32.not_lt.mp c_13, c_18, Int32.not_lt.mp c_18, c_23, Int32.not_lt.mp c_23, c_30, Int32.not_le.mp c_30])])
def csWitness (x : cS) (k : Int32) : Int32 × cS := if isK k then cTurn x (sI k) else (-2, x)
set_option maxHeartbeats 4000000 in
set_option maxRecDepth 100000 in
/-- witness -/
theorem ctX9_witness (l : Launch) (D : va_G) (y : Nat → ClassId) (ad : Nat → Nat → Nat) (x : cS) (R : List (Nat × Nat)) (qs : Nat → Nat × Nat) (nC nT : Nat) (hR : cHas R nC nT) (k : Int32) : cMi l yX9_witness wsX9_witness ({ frames := 1, cells := 0, slots := 0, locals := 21 }) D y ad x R qs [.ref (ad 0 0), .int k] (fun r x' => (r, x') = csWitness x k) := by
  refine cMi_of (cc := cX9_witness) (maxL := 3) (ret := (some .int)) (by decide) rfl (Nat.le_of_ble_eq_true rfl) ?_
  intro p e s m below meth c A ls hat hAe hl
  obtain ⟨hx, hb, hr, hml, hts, hown, hlocks, hK, hP, hD, hA, hE⟩ := hat
  have hown : s.vm.findClass RX9 = some m.cls := hown
  have hin2 : ∀ w ∈ wsX20, w ∈ wsX9_witness := fun _ h9 => List.mem_cons_of_mem _ (List.mem_append_left _ (List.mem_append_left _ (List.mem_append_right _ h9)))
  have hin9 : ∀ w ∈ wsX90, w ∈ wsX9_witness := fun _ h9 => List.mem_cons_of_mem _ (List.mem_append_left _ (List.mem_append_right _ h9))
  have hin7 : ∀ w ∈ wsX70, w ∈ wsX9_witness := fun _ h9 => List.mem_cons_of_mem _ (List.mem_append_right _ h9)
  have hl : lv_has ls 3 [(0, .ref (ad 0 0)), (1, .int k)] := hl
  have hS : va_S A s.heap s.heap [] := va_S.rf
  refine lv_aload_n hx hb dX9_witness_0 rfl (lv_at hl 0 rfl) ?_
  refine lv_iload_n hx hb dX9_witness_1 rfl (lv_at hl 1 rfl) ?_
  refine c_callep (ci := 9) (q := (RX9, TX9, 11)) (κ := 0) (i := 0) (As := [.int k]) (rest := []) ⟨hx, hb, hml, hown, hts⟩ (ctX9_courtAt l D y ad x R qs nC nT hR (k)) (cwV 1 hts gX9_witness_X9_courtAt rfl rfl rfl (by decide +kernel) ⟨Nat.le_of_ble_eq_true rfl, Nat.le_of_ble_eq_true rfl⟩) ((hR 0 (0)).mpr Nat.zero_lt_one) (fun _ _ _ => ⟨_, rfl⟩) rfl hE hK hP hD hS hA rfl hl.1 rfl (Nat.le_of_ble_eq_true rfl) dX9_witness_2 ⟨Nat.zero_le _, Nat.zero_le _⟩ (fun H locs hP hD hS => ?_)
  refine lv_re (fun e_2 => ?_) (fun k9 e_2 => ?_)
  · have bk : isK (k) = false := crtF_n e_2
    refine lv_astore_nN (lv' := [(2, .null), (0, .ref (ad 0 0)), (1, .int k)]) hx hb dX9_witness_5 rfl hl (by decide) rfl (fun ls hl => ?_)
    refine lv_aload_nN hx hb dX9_witness_6 rfl (lv_at hl 0 rfl) ?_
    refine lv_ifnonnullN hx hb dX9_witness_7 ?_
    refine lv_bipush (v := (-2)) hx hb dX9_witness_10 (by decide) ?_
    refine lv_goto (tgt := 22) hx hb dX9_witness_12 (by decide) ?_
    exact c_reti hx hb hr hlocks hAe hK hP hD hS rfl dX9_witness_22 (by rw [csWitness, if_neg (by rw [bk]; decide)])
  · obtain ⟨bk, hbk, ebk⟩ := crtF_s e_2
    rw [ebk]
    refine lv_astore_n (lv' := [(2, .ref (ad 18 (sI k))), (0, .ref (ad 0 0)), (1, .int k)]) hx hb dX9_witness_5 rfl hl (by decide) rfl (fun ls hl => ?_)
    refine lv_aload_n hx hb dX9_witness_6 rfl (lv_at hl 0 rfl) ?_
    refine lv_ifnonnull (tgt := 15) hx hb dX9_witness_7 (by decide) ?_
    refine lv_aload_n hx hb dX9_witness_15 rfl (lv_at hl 0 rfl) ?_
    refine cg_X2_suit (i := sI k) hx hb hts hin2 hown hK hP ((hR 18 (sI k)).mpr hbk) (by decide +kernel) dX9_witness_16 ?_
    refine c_calli (ci := 7) (q := (RX7, TX7, 16)) (κ := 20) (i := sI k) (As := []) (rest := []) ⟨hx, hb, hml, hown, hts⟩ (ctX7_turnWitness l D y ad x R qs nC nT hR (sI k) hbk) (cwV 0 hts gX9_witness_X7_turnWitness rfl rfl rfl (by decide +kernel) ⟨Nat.le_of_ble_eq_true rfl, Nat.le_of_ble_eq_true rfl⟩) ((hR 20 (sI k)).mpr hbk) (fun _ _ _ => ⟨_, rfl⟩) rfl hE hK hP hD hS hA rfl hl.1 rfl (Nat.le_of_ble_eq_true rfl) dX9_witness_19 ⟨Nat.zero_le _, Nat.zero_le _⟩ (fun r_19 x1 H locs hq hP hD hS => ?_)
    exact c_reti hx hb hr hlocks hAe hK hP hD hS rfl dX9_witness_22 (by rw [csWitness, if_pos bk]; exact hq)
def csDisc (x : cS) (ns se : Nat → Nat) (k c d : Int32) : Int32 × cS := if isK k = true ∧ ¬ d < 0 ∧ d ≤ 1 then cTk x (sI k) (se (sI k)) (fInt (fun i => decide (x.1 19 (sI k) i = c)) (ns (sI k))) d else (-2, x)
set_option maxHeartbeats 4000000 in
set_option maxRecDepth 100000 in
/-- disc -/
theorem ctX9_disc (l : Launch) (D : va_G) (y : Nat → ClassId) (ad : Nat → Nat → Nat) (x : cS) (R : List (Nat × Nat)) (qs : Nat → Nat × Nat) (nC nT : Nat) (hR : cHas R nC nT) (k c9 d : Int32) (ns se : Nat → Nat) (hns : ∀ k, k < 5 → x.1 18 k 3 = nI (ns k) ∧ ns k ≤ 25) (hse : ∀ k, k < 5 → x.1 20 k 5 = nI (se k) ∧ se k ≤ 25) : cMi l yX9_disc wsX9_disc ({ frames := 4, cells := 0, slots := 0, locals := 85 }) D y ad x R qs [.ref (ad 0 0), .int k, .int c9, .int d] (fun r x' => (r, x') = csDisc x ns se k c9 d) := by
  refine cMi_of (cc := cX9_disc) (maxL := 5) (ret := (some .int)) (by decide) rfl (Nat.le_of_ble_eq_true rfl) ?_
  intro p e s m below meth c A ls hat hAe hl
  obtain ⟨hx, hb, hr, hml, hts, hown, hlocks, hK, hP, hD, hA, hE⟩ := hat
  have hown : s.vm.findClass RX9 = some m.cls := hown
  have hin2 : ∀ w ∈ wsX20, w ∈ wsX9_disc := fun _ h9 => List.mem_cons_of_mem _ (List.mem_append_left _ (List.mem_append_left _ (List.mem_append_right _ h9)))
  have hin9 : ∀ w ∈ wsX90, w ∈ wsX9_disc := fun _ h9 => List.mem_cons_of_mem _ (List.mem_append_left _ (List.mem_append_right _ h9))
  have hin7 : ∀ w ∈ wsX70, w ∈ wsX9_disc := fun _ h9 => List.mem_cons_of_mem _ (List.mem_append_right _ h9)
  have hl : lv_has ls 5 [(0, .ref (ad 0 0)), (1, .int k), (2, .int c9), (3, .int d)] := hl
  have hS : va_S A s.heap s.heap [] := va_S.rf
  refine lv_aload_n hx hb dX9_disc_0 rfl (lv_at hl 0 rfl) ?_
  refine lv_iload_n hx hb dX9_disc_1 rfl (lv_at hl 1 rfl) ?_
  refine c_callep (ci := 9) (q := (RX9, TX9, 11)) (κ := 0) (i := 0) (As := [.int k]) (rest := []) ⟨hx, hb, hml, hown, hts⟩ (ctX9_courtAt l D y ad x R qs nC nT hR (k)) (cwV 1 hts gX9_disc_X9_courtAt rfl rfl rfl (by decide +kernel) ⟨Nat.le_of_ble_eq_true rfl, Nat.le_of_ble_eq_true rfl⟩) ((hR 0 (0)).mpr Nat.zero_lt_one) (fun _ _ _ => ⟨_, rfl⟩) rfl hE hK hP hD hS hA rfl hl.1 rfl (Nat.le_of_ble_eq_true rfl) dX9_disc_2 ⟨Nat.zero_le _, Nat.zero_le _⟩ (fun H locs hP hD hS => ?_)
  refine lv_re (fun e_2 => ?_) (fun k9 e_2 => ?_)
  · have bk : isK (k) = false := crtF_n e_2
    refine lv_astoreN (lv' := [(4, .null), (0, .ref (ad 0 0)), (1, .int k), (2, .int c9), (3, .int d)]) hx hb dX9_disc_5 hl (by decide) rfl (fun ls hl => ?_)
    refine lv_aloadN hx hb dX9_disc_7 (lv_at hl 0 rfl) ?_
    refine lv_ifnullN (tgt := 21) hx hb dX9_disc_9 (by decide) ?_
    refine lv_bipush (v := (-2)) hx hb dX9_disc_21 (by decide) ?_
    exact c_reti hx hb hr hlocks hAe hK hP hD hS rfl dX9_disc_23 (by rw [csDisc, if_neg (by simp [bk, e_2])])
  · obtain ⟨bk, hbk, ebk⟩ := crtF_s e_2
    rw [ebk]
    refine lv_astore (lv' := [(4, .ref (ad 18 (sI k))), (0, .ref (ad 0 0)), (1, .int k), (2, .int c9), (3, .int d)]) hx hb dX9_disc_5 hl (by decide) rfl (fun ls hl => ?_)
    refine lv_aload hx hb dX9_disc_7 (lv_at hl 0 rfl) ?_
    refine lv_ifnull hx hb dX9_disc_9 ?_
    refine lv_iload_n hx hb dX9_disc_12 rfl (lv_at hl 4 rfl) ?_
    refine lv_if_lt (tgt := 21) hx hb dX9_disc_13 (by decide) (fun c_13 => ?_) (fun c_13 => ?_)
    · refine lv_bipush (v := (-2)) hx hb dX9_disc_21 (by decide) ?_
      exact c_reti hx hb hr hlocks hAe hK hP hD hS rfl dX9_disc_23 (by rw [csDisc, if_neg (by simp [bk, e_2, c_13, Int32.not_le.mpr c_13])])
    · refine lv_iload_n hx hb dX9_disc_16 rfl (lv_at hl 4 rfl) ?_
      refine lv_iconst (v := 1) hx hb dX9_disc_17 (by decide) ?_
      refine lv_icmp_le (tgt := 24) hx hb dX9_disc_18 (by decide) (fun c_18 => ?_) (fun c_18 => ?_)
      · refine lv_aload hx hb dX9_disc_24 (lv_at hl 0 rfl) ?_
        refine cg_X2_suit (i := sI k) hx hb hts hin2 hown hK hP ((hR 18 (sI k)).mpr hbk) (by decide +kernel) dX9_disc_26 ?_
        refine lv_aload hx hb dX9_disc_29 (lv_at hl 0 rfl) ?_
        refine lv_iload_n hx hb dX9_disc_31 rfl (lv_at hl 3 rfl) ?_
        refine c_callip (ci := 2) (q := (RX2, TX2, 4)) (κ := 18) (i := sI k) (As := [.int c9]) (rest := [.ref (ad 20 (sI k))]) ⟨hx, hb, hml, hown, hts⟩ (ctX2_seatOf l D y ad x R qs nC nT hR (sI k) c9 (ns (sI k)) hbk (hns _ hbk).1 (hns _ hbk).2) (cwV 1 hts gX9_disc_X2_seatOf rfl rfl rfl (by decide +kernel) ⟨Nat.le_of_ble_eq_true rfl, Nat.le_of_ble_eq_true rfl⟩) ((hR 18 (sI k)).mpr hbk) (fun _ _ _ => ⟨_, rfl⟩) rfl hE hK hP hD hS hA rfl hl.1 rfl (Nat.le_of_ble_eq_true rfl) dX9_disc_32 ⟨Nat.zero_le _, Nat.zero_le _⟩ (fun H locs hP hD hS => ?_)
        refine lv_iload_n hx hb dX9_disc_35 rfl (lv_at hl 4 rfl) ?_
        refine c_calli (ci := 7) (q := (RX7, TX7, 16)) (κ := 20) (i := sI k) (As := [.int _, .int d]) (rest := []) ⟨hx, hb, hml, hown, hts⟩ (ctX7_takeDisc l D y ad x R qs nC nT hR (sI k) (se (sI k)) _ d hbk (hse _ hbk).1 (hse _ hbk).2) (cwV 2 hts gX9_disc_X7_takeDisc rfl rfl rfl (by decide +kernel) ⟨Nat.le_of_ble_eq_true rfl, Nat.le_of_ble_eq_true rfl⟩) ((hR 20 (sI k)).mpr hbk) (fun _ _ _ => ⟨_, rfl⟩) rfl hE hK hP hD hS hA rfl hl.1 rfl (Nat.le_of_ble_eq_true rfl) dX9_disc_36 ⟨Nat.zero_le _, Nat.zero_le _⟩ (fun r_36 x1 H locs hq hP hD hS => ?_)
        exact c_reti hx hb hr hlocks hAe hK hP hD hS rfl dX9_disc_39 (by rw [csDisc, if_pos ⟨bk, c_13, c_18⟩]; exact hq)
      · refine lv_bipush (v := (-2)) hx hb dX9_disc_21 (by decide) ?_
        exact c_reti hx hb hr hlocks hAe hK hP hD hS rfl dX9_disc_23 (by rw [csDisc, if_neg (by simp [bk, e_2, c_13, Int32.not_lt.mp c_13, c_18, Int32.not_le.mp c_18])])
def csCourt (x : cS) (se : Nat → Nat) (k w : Int32) : Int32 := if isK k then (if w = 0 then x.1 18 (sI k) 2 else if w = 1 then x.1 18 (sI k) 3 else if w = 2 then (if x.1 20 (sI k) 4 = 0 then 0 else 1) else cSA x (sI k) (se (sI k)) w) else -1
set_option maxHeartbeats 4000000 in
set_option maxRecDepth 100000 in
/-- court -/
theorem ctX9_court (l : Launch) (D : va_G) (y : Nat → ClassId) (ad : Nat → Nat → Nat) (x : cS) (R : List (Nat × Nat)) (qs : Nat → Nat × Nat) (nC nT : Nat) (hR : cHas R nC nT) (k w : Int32) (se : Nat → Nat) (hse : ∀ k, k < 5 → x.1 20 k 5 = nI (se k) ∧ se k ≤ 25) : cMi l yX9_court wsX9_court ({ frames := 4, cells := 0, slots := 0, locals := 84 }) D y ad x R qs [.ref (ad 0 0), .int k, .int w] (fun r x' => r = csCourt x se k w ∧ x' = x) := by
  refine cMi_of (cc := cX9_court) (maxL := 4) (ret := (some .int)) (by decide) rfl (Nat.le_of_ble_eq_true rfl) ?_
  intro p e s m below meth c A ls hat hAe hl
  obtain ⟨hx, hb, hr, hml, hts, hown, hlocks, hK, hP, hD, hA, hE⟩ := hat
  have hown : s.vm.findClass RX9 = some m.cls := hown
  have hin2 : ∀ w ∈ wsX20, w ∈ wsX9_court := fun _ h9 => List.mem_cons_of_mem _ (List.mem_append_left _ (List.mem_append_left _ (List.mem_append_right _ h9)))
  have hin7 : ∀ w ∈ wsX70, w ∈ wsX9_court := fun _ h9 => List.mem_cons_of_mem _ (List.mem_append_left _ (List.mem_append_right _ h9))
  have hin9 : ∀ w ∈ wsX90, w ∈ wsX9_court := fun _ h9 => List.mem_cons_of_mem _ (List.mem_append_right _ h9)
  have hl : lv_has ls 4 [(0, .ref (ad 0 0)), (1, .int k), (2, .int w)] := hl
  have hS : va_S A s.heap s.heap [] := va_S.rf
  refine lv_aload_n hx hb dX9_court_0 rfl (lv_at hl 0 rfl) ?_
  refine lv_iload_n hx hb dX9_court_1 rfl (lv_at hl 1 rfl) ?_
  refine c_callep (ci := 9) (q := (RX9, TX9, 11)) (κ := 0) (i := 0) (As := [.int k]) (rest := []) ⟨hx, hb, hml, hown, hts⟩ (ctX9_courtAt l D y ad x R qs nC nT hR (k)) (cwV 1 hts gX9_court_X9_courtAt rfl rfl rfl (by decide +kernel) ⟨Nat.le_of_ble_eq_true rfl, Nat.le_of_ble_eq_true rfl⟩) ((hR 0 (0)).mpr Nat.zero_lt_one) (fun _ _ _ => ⟨_, rfl⟩) rfl hE hK hP hD hS hA rfl hl.1 rfl (Nat.le_of_ble_eq_true rfl) dX9_court_2 ⟨Nat.zero_le _, Nat.zero_le _⟩ (fun H locs hP hD hS => ?_)
  refine lv_re (fun e_2 => ?_) (fun k9 e_2 => ?_)
  · have bk : isK (k) = false := crtF_n e_2
    refine lv_astore_nN (lv' := [(3, .null), (0, .ref (ad 0 0)), (1, .int k), (2, .int w)]) hx hb dX9_court_5 rfl hl (by decide) rfl (fun ls hl => ?_)
    refine lv_aload_nN hx hb dX9_court_6 rfl (lv_at hl 0 rfl) ?_
    refine lv_ifnonnullN hx hb dX9_court_7 ?_
    refine lv_iconst (v := (-1)) hx hb dX9_court_10 (by decide) ?_
    exact c_reti hx hb hr hlocks hAe hK hP hD hS rfl dX9_court_11 (⟨by rw [csCourt, if_neg (by rw [bk]; decide)], rfl⟩)
  · obtain ⟨bk, hbk, ebk⟩ := crtF_s e_2
    rw [ebk]
    refine lv_astore_n (lv' := [(3, .ref (ad 18 (sI k))), (0, .ref (ad 0 0)), (1, .int k), (2, .int w)]) hx hb dX9_court_5 rfl hl (by decide) rfl (fun ls hl => ?_)
    refine lv_aload_n hx hb dX9_court_6 rfl (lv_at hl 0 rfl) ?_
    refine lv_ifnonnull (tgt := 12) hx hb dX9_court_7 (by decide) ?_
    refine lv_iload_n hx hb dX9_court_12 rfl (lv_at hl 3 rfl) ?_
    refine lv_topi (fun sw_13 esw_13 => ?_)
    by_cases w0_13 : sw_13 = 0
    · subst w0_13
      refine lv_tableIn (tgt := 40) hx hb dX9_court_13 (by decide) (by decide) rfl (by decide) ?_
      refine lv_aload_n hx hb dX9_court_40 rfl (lv_at hl 0 rfl) ?_
      refine cg_X2_size (i := sI k) hx hb hts hin2 hown hK hP ((hR 18 (sI k)).mpr hbk) (by decide +kernel) dX9_court_41 ?_
      exact c_reti hx hb hr hlocks hAe hK hP hD hS rfl dX9_court_44 (⟨by rw [csCourt, if_pos bk]; simp [← esw_13], rfl⟩)
    by_cases w1_13 : sw_13 = 1
    · subst w1_13
      refine lv_tableIn (tgt := 45) hx hb dX9_court_13 (by decide) (by decide) rfl (by decide) ?_
      refine lv_aload_n hx hb dX9_court_45 rfl (lv_at hl 0 rfl) ?_
      refine cg_X2_sitting (i := sI k) hx hb hts hin2 hown hK hP ((hR 18 (sI k)).mpr hbk) (by decide +kernel) dX9_court_46 ?_
      exact c_reti hx hb hr hlocks hAe hK hP hD hS rfl dX9_court_49 (⟨by rw [csCourt, if_pos bk]; simp [← esw_13], rfl⟩)
    by_cases w2_13 : sw_13 = 2
    · subst w2_13
      refine lv_tableIn (tgt := 50) hx hb dX9_court_13 (by decide) (by decide) rfl (by decide) ?_
      refine lv_aload_n hx hb dX9_court_50 rfl (lv_at hl 0 rfl) ?_
      refine cg_X2_suit (i := sI k) hx hb hts hin2 hown hK hP ((hR 18 (sI k)).mpr hbk) (by decide +kernel) dX9_court_51 ?_
      refine cg_X7_open (i := sI k) hx hb hts hin7 hown hK hP ((hR 20 (sI k)).mpr hbk) (by decide +kernel) dX9_court_54 ?_
      refine lv_if_eq (tgt := 64) hx hb dX9_court_57 (by decide) (fun c_57 => ?_) (fun c_57 => ?_)
      · refine lv_iconst (v := 0) hx hb dX9_court_64 (by decide) ?_
        exact c_reti hx hb hr hlocks hAe hK hP hD hS rfl dX9_court_65 (⟨by rw [csCourt, if_pos bk]; simp [← esw_13, c_57], rfl⟩)
      · refine lv_iconst (v := 1) hx hb dX9_court_60 (by decide) ?_
        refine lv_goto (tgt := 65) hx hb dX9_court_61 (by decide) ?_
        exact c_reti hx hb hr hlocks hAe hK hP hD hS rfl dX9_court_65 (⟨by rw [csCourt, if_pos bk]; simp [← esw_13, c_57], rfl⟩)
    refine lv_tableOut (tgt := 66) hx hb dX9_court_13 (by have q0 := tI sw_13 0 0 rfl w0_13; have q1 := tI sw_13 1 1 rfl w1_13; have q2 := tI sw_13 2 2 rfl w2_13; omega) (by decide) ?_
    refine lv_aload_n hx hb dX9_court_66 rfl (lv_at hl 0 rfl) ?_
    refine cg_X2_suit (i := sI k) hx hb hts hin2 hown hK hP ((hR 18 (sI k)).mpr hbk) (by decide +kernel) dX9_court_67 ?_
    refine lv_iload_n hx hb dX9_court_70 rfl (lv_at hl 3 rfl) ?_
    refine c_callip (ci := 7) (q := (RX7, TX7, 16)) (κ := 20) (i := sI k) (As := [.int w]) (rest := []) ⟨hx, hb, hml, hown, hts⟩ (ctX7_answer l D y ad x R qs nC nT hR (sI k) (se (sI k)) w hbk (hse _ hbk).1 (hse _ hbk).2) (cwV 1 hts gX9_court_X7_answer rfl rfl rfl (by decide +kernel) ⟨Nat.le_of_ble_eq_true rfl, Nat.le_of_ble_eq_true rfl⟩) ((hR 20 (sI k)).mpr hbk) (fun _ _ _ => ⟨_, rfl⟩) rfl hE hK hP hD hS hA rfl hl.1 rfl (Nat.le_of_ble_eq_true rfl) dX9_court_71 ⟨Nat.zero_le _, Nat.zero_le _⟩ (fun H locs hP hD hS => ?_)
    exact c_reti hx hb hr hlocks hAe hK hP hD hS rfl dX9_court_74 (⟨by rw [csCourt, if_pos bk]; simp only [← esw_13, w0_13, w1_13, w2_13, if_false], rfl⟩)
def csCount (x : cS) (w : Int32) : Int32 := if w = 0 then x.1 0 0 7 else if w = 1 then x.1 0 0 8 else if w = 2 then x.1 9 0 4 else if w = 3 then x.1 9 0 5 else if w = 4 then x.1 9 0 6 else if w = 5 then x.1 6 0 2 else if w = 6 then x.1 1 0 1 else if w = 7 then x.1 0 0 9 else if w = 8 then x.1 0 0 10 else -1
set_option maxHeartbeats 4000000 in
set_option maxRecDepth 100000 in
/-- count -/
theorem ctX9_count (l : Launch) (D : va_G) (y : Nat → ClassId) (ad : Nat → Nat → Nat) (x : cS) (R : List (Nat × Nat)) (qs : Nat → Nat × Nat) (nC nT : Nat) (hR : cHas R nC nT) (w : Int32) : cMi l yX9_count wsX9_count ({ frames := 0, cells := 0, slots := 0, locals := 0 }) D y ad x R qs [.ref (ad 0 0), .int w] (fun r x' => r = csCount x w ∧ x' = x) := by
  refine cMi_of (cc := cX9_count) (maxL := 2) (ret := (some .int)) (by decide) rfl (Nat.le_of_ble_eq_true rfl) ?_
  intro p e s m below meth c A ls hat hAe hl
  obtain ⟨hx, hb, hr, hml, hts, hown, hlocks, hK, hP, hD, hA, hE⟩ := hat
  have hown : s.vm.findClass RX9 = some m.cls := hown
  have hin9 : ∀ w ∈ wsX90, w ∈ wsX9_count := fun _ h9 => List.mem_cons_of_mem _ (List.mem_append_left _ (List.mem_append_left _ (List.mem_append_left _ (List.mem_append_right _ h9))))
  have hin3 : ∀ w ∈ wsX30, w ∈ wsX9_count := fun _ h9 => List.mem_cons_of_mem _ (List.mem_append_left _ (List.mem_append_left _ (List.mem_append_right _ h9)))
  have hin4 : ∀ w ∈ wsX40, w ∈ wsX9_count := fun _ h9 => List.mem_cons_of_mem _ (List.mem_append_left _ (List.mem_append_right _ h9))
  have hin8 : ∀ w ∈ wsX80, w ∈ wsX9_count := fun _ h9 => List.mem_cons_of_mem _ (List.mem_append_right _ h9)
  have hl : lv_has ls 2 [(0, .ref (ad 0 0)), (1, .int w)] := hl
  have hS : va_S A s.heap s.heap [] := va_S.rf
  refine lv_iload_n hx hb dX9_count_0 rfl (lv_at hl 1 rfl) ?_
  refine lv_topi (fun sw_1 esw_1 => ?_)
  by_cases w0_1 : sw_1 = 0
  · subst w0_1
    refine lv_tableIn (tgt := 52) hx hb dX9_count_1 (by decide) (by decide) rfl (by decide) ?_
    refine lv_aload_n hx hb dX9_count_52 rfl (lv_at hl 0 rfl) ?_
    refine cg_X9_citizens (i := 0) hx hb hts hin9 hown hK hP ((hR 0 (0)).mpr Nat.zero_lt_one) (by decide +kernel) dX9_count_53 ?_
    exact c_reti hx hb hr hlocks hAe hK hP hD hS rfl dX9_count_56 (⟨by simp [csCount, ← esw_1], rfl⟩)
  by_cases w1_1 : sw_1 = 1
  · subst w1_1
    refine lv_tableIn (tgt := 57) hx hb dX9_count_1 (by decide) (by decide) rfl (by decide) ?_
    refine lv_aload_n hx hb dX9_count_57 rfl (lv_at hl 0 rfl) ?_
    refine cg_X9_clock (i := 0) hx hb hts hin9 hown hK hP ((hR 0 (0)).mpr Nat.zero_lt_one) (by decide +kernel) dX9_count_58 ?_
    exact c_reti hx hb hr hlocks hAe hK hP hD hS rfl dX9_count_61 (⟨by simp [csCount, ← esw_1], rfl⟩)
  by_cases w2_1 : sw_1 = 2
  · subst w2_1
    refine lv_tableIn (tgt := 62) hx hb dX9_count_1 (by decide) (by decide) rfl (by decide) ?_
    refine lv_aload_n hx hb dX9_count_62 rfl (lv_at hl 0 rfl) ?_
    refine cg_X9_dawn (i := 0) hx hb hts hin9 hown hK hP ((hR 0 (0)).mpr Nat.zero_lt_one) (by decide +kernel) dX9_count_63 ?_
    refine cg_X3_arrivals (i := 0) hx hb hts hin3 hown hK hP ((hR 9 (0)).mpr Nat.zero_lt_one) (by decide +kernel) dX9_count_66 ?_
    exact c_reti hx hb hr hlocks hAe hK hP hD hS rfl dX9_count_69 (⟨by simp [csCount, ← esw_1], rfl⟩)
  by_cases w3_1 : sw_1 = 3
  · subst w3_1
    refine lv_tableIn (tgt := 70) hx hb dX9_count_1 (by decide) (by decide) rfl (by decide) ?_
    refine lv_aload_n hx hb dX9_count_70 rfl (lv_at hl 0 rfl) ?_
    refine cg_X9_dawn (i := 0) hx hb hts hin9 hown hK hP ((hR 0 (0)).mpr Nat.zero_lt_one) (by decide +kernel) dX9_count_71 ?_
    refine cg_X3_chosenOnes (i := 0) hx hb hts hin3 hown hK hP ((hR 9 (0)).mpr Nat.zero_lt_one) (by decide +kernel) dX9_count_74 ?_
    exact c_reti hx hb hr hlocks hAe hK hP hD hS rfl dX9_count_77 (⟨by simp [csCount, ← esw_1], rfl⟩)
  by_cases w4_1 : sw_1 = 4
  · subst w4_1
    refine lv_tableIn (tgt := 78) hx hb dX9_count_1 (by decide) (by decide) rfl (by decide) ?_
    refine lv_aload_n hx hb dX9_count_78 rfl (lv_at hl 0 rfl) ?_
    refine cg_X9_dawn (i := 0) hx hb hts hin9 hown hK hP ((hR 0 (0)).mpr Nat.zero_lt_one) (by decide +kernel) dX9_count_79 ?_
    refine cg_X3_lots (i := 0) hx hb hts hin3 hown hK hP ((hR 9 (0)).mpr Nat.zero_lt_one) (by decide +kernel) dX9_count_82 ?_
    exact c_reti hx hb hr hlocks hAe hK hP hD hS rfl dX9_count_85 (⟨by simp [csCount, ← esw_1], rfl⟩)
  by_cases w5_1 : sw_1 = 5
  · subst w5_1
    refine lv_tableIn (tgt := 86) hx hb dX9_count_1 (by decide) (by decide) rfl (by decide) ?_
    refine lv_aload_n hx hb dX9_count_86 rfl (lv_at hl 0 rfl) ?_
    refine cg_X9_book (i := 0) hx hb hts hin9 hown hK hP ((hR 0 (0)).mpr Nat.zero_lt_one) (by decide +kernel) dX9_count_87 ?_
    refine cg_X4_size (i := 0) hx hb hts hin4 hown hK hP ((hR 6 (0)).mpr Nat.zero_lt_one) (by decide +kernel) dX9_count_90 ?_
    exact c_reti hx hb hr hlocks hAe hK hP hD hS rfl dX9_count_93 (⟨by simp [csCount, ← esw_1], rfl⟩)
  by_cases w6_1 : sw_1 = 6
  · subst w6_1
    refine lv_tableIn (tgt := 94) hx hb dX9_count_1 (by decide) (by decide) rfl (by decide) ?_
    refine lv_aload_n hx hb dX9_count_94 rfl (lv_at hl 0 rfl) ?_
    refine cg_X9_tape (i := 0) hx hb hts hin9 hown hK hP ((hR 0 (0)).mpr Nat.zero_lt_one) (by decide +kernel) dX9_count_95 ?_
    refine cg_X8_used (i := 0) hx hb hts hin8 hown hK hP ((hR 1 (0)).mpr Nat.zero_lt_one) (by decide +kernel) dX9_count_98 ?_
    exact c_reti hx hb hr hlocks hAe hK hP hD hS rfl dX9_count_101 (⟨by simp [csCount, ← esw_1], rfl⟩)
  by_cases w7_1 : sw_1 = 7
  · subst w7_1
    refine lv_tableIn (tgt := 102) hx hb dX9_count_1 (by decide) (by decide) rfl (by decide) ?_
    refine lv_aload_n hx hb dX9_count_102 rfl (lv_at hl 0 rfl) ?_
    refine cg_X9_suitsClosed (i := 0) hx hb hts hin9 hown hK hP ((hR 0 (0)).mpr Nat.zero_lt_one) (by decide +kernel) dX9_count_103 ?_
    exact c_reti hx hb hr hlocks hAe hK hP hD hS rfl dX9_count_106 (⟨by simp [csCount, ← esw_1], rfl⟩)
  by_cases w8_1 : sw_1 = 8
  · subst w8_1
    refine lv_tableIn (tgt := 107) hx hb dX9_count_1 (by decide) (by decide) rfl (by decide) ?_
    refine lv_aload_n hx hb dX9_count_107 rfl (lv_at hl 0 rfl) ?_
    refine cg_X9_payInAll (i := 0) hx hb hts hin9 hown hK hP ((hR 0 (0)).mpr Nat.zero_lt_one) (by decide +kernel) dX9_count_108 ?_
    exact c_reti hx hb hr hlocks hAe hK hP hD hS rfl dX9_count_111 (⟨by simp [csCount, ← esw_1], rfl⟩)
  refine lv_tableOut (tgt := 112) hx hb dX9_count_1 (by have q0 := tI sw_1 0 0 rfl w0_1; have q1 := tI sw_1 1 1 rfl w1_1; have q2 := tI sw_1 2 2 rfl w2_1; have q3 := tI sw_1 3 3 rfl w3_1; have q4 := tI sw_1 4 4 rfl w4_1; have q5 := tI sw_1 5 5 rfl w5_1; have q6 := tI sw_1 6 6 rfl w6_1; have q7 := tI sw_1 7 7 rfl w7_1; have q8 := tI sw_1 8 8 rfl w8_1; omega) (by decide) ?_
  refine lv_iconst (v := (-1)) hx hb dX9_count_112 (by decide) ?_
  exact c_reti hx hb hr hlocks hAe hK hP hD hS rfl dX9_count_113 (⟨by simp only [csCount, ← esw_1, w0_1, w1_1, w2_1, w3_1, w4_1, w5_1, w6_1, w7_1, w8_1, if_false], rfl⟩)
