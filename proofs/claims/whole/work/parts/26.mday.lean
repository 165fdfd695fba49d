/-! the reference: the day, who comes, the rows, the ways -/
def nowC (v : mS) : Nat → mS
  | 0 => v
  | k + 1 => mrU (mrU (mrU (nowC v k) 22 k (-1)) 23 k 0) 24 k (-1)
def nowD (v : mS) : Nat → mS
  | 0 => v
  | k + 1 => mrU (nowD v k) 25 k 0
theorem nowC_1 (v : mS) (k : Nat) : (nowC v k).1 = v.1 := by
  induction k with
  | zero => rfl
  | succ k ih => rw [nowC]; exact ih
def spNow (n : Nat) (v : mS) (day : Int32) : Int32 × mS := if inR (v.1 14 + 1).toInt 20000 day then (day, mShut (miU (miU (nowD (nowC (miU v 14 day) n) 10) 27 0) 28 0) 5) else (-2, v)
set_option maxHeartbeats 4000000 in
set_option maxRecDepth 100000 in
/-- now(day) -/
theorem ctX10_now (l : Launch) (D : va_G) (y : Nat → ClassId) (h : Nat) (a : Nat → Nat) (v : mS) (day : Int32) (n : Nat) (hn : v.1 15 = nI n) (hn1 : n ≤ 150) : mMi l yX10_now wsX10_now ({ frames := 1, cells := 0, slots := 0, locals := 25 }) D y h a v [.ref h, .int day] (fun r v' => (r, v') = spNow n v day) := by
  refine mMi_of (cc := cX10_now) (maxL := 3) (ret := (some .int)) rfl rfl (Nat.le_of_ble_eq_true rfl) ?_
  intro p e s m below meth c A ls hat hAe hl
  obtain ⟨hx, hb, hr, hml, hts, hown, hlocks, hK, hP, hD, hA⟩ := hat
  have hin : ∀ w ∈ wsX100, w ∈ wsX10_now := fun _ h9 => List.mem_cons_of_mem _ (List.mem_append_right _ h9)
  have hl : lv_has ls 3 [(0, .ref h), (1, .int day)] := hl
  have hS : va_S A s.heap s.heap [] := va_S.rf
  refine lv_iload_n hx hb dX10_now_0 rfl (lv_at hl 1 rfl) ?_
  refine lv_i2l hx hb dX10_now_1 rfl ?_
  refine lv_aload_n hx hb dX10_now_2 rfl (lv_at hl 0 rfl) ?_
  refine mg_clock hx hb hts hin hown hK hP (by decide +kernel) dX10_now_3 ?_
  refine lv_iconst (v := 1) hx hb dX10_now_6 (by decide) ?_
  refine lv_iadd hx hb dX10_now_7 ?_
  refine lv_i2l hx hb dX10_now_8 rfl ?_
  refine lv_ldc2 (v := 20000) hx hb hown (hts (.constantLong RX10 192 (20000)) (by decide +kernel)) dX10_now_9 ?_
  refine s_calli (As := [.long (day.toInt64), .long _, .long 20000]) (rest := []) ⟨hx, hb, hml, hown, hts⟩ (ctX10_in l _ _ _) (cwS 3 hts gX10_now_X10_in rfl rfl rfl (by decide +kernel) ⟨Nat.le_of_ble_eq_true rfl, Nat.le_of_ble_eq_true rfl⟩) hP hS rfl hl.1 rfl (Nat.le_of_ble_eq_true rfl) dX10_now_12 ⟨Nat.zero_le _, Nat.zero_le _⟩ (fun H locs hP hS => ?_)
  refine lv_if_ne (tgt := 21) hx hb dX10_now_15 (by decide) (fun c_15 => ?_) (fun c_15 => ?_)
  · rw [mIn_R, Int32.toInt_toInt64] at c_15
    have b15 : inR (v.1 14 + 1).toInt 20000 day = true := (zI_ne _).mp c_15
    refine lv_aload_n hx hb dX10_now_21 rfl (lv_at hl 0 rfl) ?_
    refine lv_iload_n hx hb dX10_now_22 rfl (lv_at hl 1 rfl) ?_
    refine mp_clock hx hb hts hin hown hK hP hD hS (by decide +kernel) dX10_now_23 (fun H locs hP hD hS => ?_)
    refine lv_iconst (v := 0) hx hb dX10_now_26 (by decide) ?_
    refine lv_istore_n (lv' := [(2, .int 0), (0, .ref h), (1, .int day)]) hx hb dX10_now_27 rfl hl (by decide) rfl (fun ls hl => ?_)
    have lp_28 : ∀ (n_28 : Nat) (k : Nat) (u : mS) (x2 : Int32), (k ≤ n) → (n + 1 ≤ k + n_28) → (x2 = nI k) → (u = nowC (miU v 14 day) k) → ∀ (H : Heap) (locs : List Loc), va_P D vwCl (mW h a y u) H → va_D A (mW h a y u) → va_S A s.heap H locs → ∀ (ls : Array Slot), lv_has ls 3 [(0, .ref h), (1, .int day), (2, .int x2)] → W p l e (headSpec wsX10_now ({ frames := 1, cells := 0, slots := 0, locals := 25 })).room s m ([.ref h, .int day] : List Value).toArray below meth c H locs 0 0 (MQ below (va_Qi (fun r v' => (r, v') = spNow n v day) (mEnd D y h a s.heap.size) A) ([.ref h, .int day] : List Value).toArray s 0 0 A) (F0 m 28 ls []) := by
      intro n_28
      induction n_28 with
      | zero =>
        intro k u x2 hk hf ex2 hu
        exact absurd hf (by omega)
      | succ n_28 ih_28 =>
        intro k u x2 hk hf ex2 hu H locs hP hD hS ls hl
        refine lv_iload_n hx hb dX10_now_28 rfl (lv_at hl 2 rfl) ?_
        refine lv_aload_n hx hb dX10_now_29 rfl (lv_at hl 0 rfl) ?_
        refine mg_citizens hx hb hts hin hown hK hP (by decide +kernel) dX10_now_30 ?_
        refine lv_icmp_ge (tgt := 63) hx hb dX10_now_33 (by decide) (fun c_33 => ?_) (fun c_33 => ?_)
        · have hkn : k = n := by rw [hu, nowC_1, ex2] at c_33; rw [show (miU v 14 day).1 15 = nI n from hn] at c_33; have := (nI_leI (by omega) (by omega)).mp c_33; omega
          refine lv_iconst (v := 0) hx hb dX10_now_63 (by decide) ?_
          refine lv_istore_n (lv' := [(2, .int 0), (0, .ref h), (1, .int day)]) hx hb dX10_now_64 rfl hl (by decide) rfl (fun ls hl => ?_)
          have lp_65 : ∀ (n_65 : Nat) (j : Nat) (u' : mS) (x2d : Int32), (j ≤ 10) → (11 ≤ j + n_65) → (x2d = nI j) → (u' = nowD (nowC (miU v 14 day) n) j) → ∀ (H : Heap) (locs : List Loc), va_P D vwCl (mW h a y u') H → va_D A (mW h a y u') → va_S A s.heap H locs → ∀ (ls : Array Slot), lv_has ls 3 [(0, .ref h), (1, .int day), (2, .int x2d)] → W p l e (headSpec wsX10_now ({ frames := 1, cells := 0, slots := 0, locals := 25 })).room s m ([.ref h, .int day] : List Value).toArray below meth c H locs 0 0 (MQ below (va_Qi (fun r v' => (r, v') = spNow n v day) (mEnd D y h a s.heap.size) A) ([.ref h, .int day] : List Value).toArray s 0 0 A) (F0 m 65 ls []) := by
            intro n_65
            induction n_65 with
            | zero =>
              intro j u' x2d hj0 hjf ex2d hu'
              exact absurd hjf (by omega)
            | succ n_65 ih_65 =>
              intro j u' x2d hj0 hjf ex2d hu' H locs hP hD hS ls hl
              refine lv_iload_n hx hb dX10_now_65 rfl (lv_at hl 2 rfl) ?_
              refine lv_bipush (v := 10) hx hb dX10_now_66 (by decide) ?_
              refine lv_icmp_ge (tgt := 84) hx hb dX10_now_68 (by decide) (fun c_68 => ?_) (fun c_68 => ?_)
              · have hj : j = 10 := by rw [ex2d] at c_68; have := (nI_leI (a := 10) (by omega) (by omega)).mp c_68; omega
                refine lv_aload_n hx hb dX10_now_84 rfl (lv_at hl 0 rfl) ?_
                refine lv_iconst (v := 0) hx hb dX10_now_85 (by decide) ?_
                refine mp_chosenMany hx hb hts hin hown hK hP hD hS (by decide +kernel) dX10_now_86 (fun H locs hP hD hS => ?_)
                refine lv_aload_n hx hb dX10_now_89 rfl (lv_at hl 0 rfl) ?_
                refine lv_iconst (v := 0) hx hb dX10_now_90 (by decide) ?_
                refine mp_lots hx hb hts hin hown hK hP hD hS (by decide +kernel) dX10_now_91 (fun H locs hP hD hS => ?_)
                refine lv_aload_n hx hb dX10_now_94 rfl (lv_at hl 0 rfl) ?_
                refine m_callv (As := []) (rest := []) ⟨hx, hb, hml, hown, hts⟩ (ctX10_shutAll l D y h a _) (cwV 0 hts gX10_now_X10_shutAll rfl rfl rfl (by decide +kernel) ⟨Nat.le_of_ble_eq_true rfl, Nat.le_of_ble_eq_true rfl⟩) hK hP hD hS hA rfl hl.1 rfl (Nat.le_of_ble_eq_true rfl) dX10_now_95 ⟨Nat.zero_le _, Nat.zero_le _⟩ (fun v95 H locs hq hP hD hS => ?_)
                refine lv_iload_n hx hb dX10_now_98 rfl (lv_at hl 1 rfl) ?_
                exact m_reti hx hb hr hlocks hAe hK hP hD hS rfl dX10_now_99 (by rw [hq, spNow, if_pos b15, hu', hj])
              · have hj : j < 10 := by rw [ex2d] at c_68; exact Nat.not_le.mp (fun q => c_68 (nI_le (a := 10) q (by omega)))
                have hc2 : x2d.toNatClampNeg = j := by rw [ex2d]; exact nI_clamp (by omega)
                have hi2 : vp_in x2d 10 := by rw [ex2d]; exact vp_in_nI hj (by omega)
                refine lv_aload_n hx hb dX10_now_71 rfl (lv_at hl 0 rfl) ?_
                refine mg_drew hx hb hts hin hown hK hP (by decide +kernel) dX10_now_72 ?_
                refine lv_iload_n hx hb dX10_now_75 rfl (lv_at hl 2 rfl) ?_
                refine lv_iconst (v := 0) hx hb dX10_now_76 (by decide) ?_
                refine ms_drew hx hb hK hP hD hS (hi2) dX10_now_77 (fun H locs hP hD hS => ?_)
                obtain ⟨x2_1, ex2_1⟩ : ∃ z : Int32, z = x2d + 1 := ⟨_, rfl⟩
                refine lv_iinc (v := x2_1) (lv' := [(2, .int x2_1), (0, .ref h), (1, .int day)]) hx hb dX10_now_78 hl (k := 2) rfl (by rw [ex2_1]; rfl) (by decide) rfl (fun ls hl => ?_)
                refine lv_goto (tgt := 65) hx hb dX10_now_81 (by decide) ?_
                exact ih_65 (j + 1) _ _ (by omega) (by omega) (by rw [ex2_1, ex2d]; exact nI_1 _) (by rw [hc2, nar0, hu', nowD]) _ _ hP hD hS _ (lv_sub hl [1, 2, 0] rfl)
          exact lp_65 11 0 _ _ (Nat.zero_le _) (by omega) rfl (by rw [hu, hkn]; rfl) _ _ hP hD hS _ (lv_sub hl [1, 2, 0] rfl)
        · have hkn : k < n := by rw [hu, nowC_1, ex2] at c_33; rw [show (miU v 14 day).1 15 = nI n from hn] at c_33; exact Nat.not_le.mp (fun q => c_33 (nI_le q (by omega)))
          have hc2 : x2.toNatClampNeg = k := by rw [ex2]; exact nI_clamp (by omega)
          have hi2 : vp_in x2 150 := by rw [ex2]; exact vp_in_nI (by omega) (by omega)
          refine lv_aload_n hx hb dX10_now_36 rfl (lv_at hl 0 rfl) ?_
          refine mg_place hx hb hts hin hown hK hP (by decide +kernel) dX10_now_37 ?_
          refine lv_iload_n hx hb dX10_now_40 rfl (lv_at hl 2 rfl) ?_
          refine lv_iconst (v := (-1)) hx hb dX10_now_41 (by decide) ?_
          refine ms_place hx hb hK hP hD hS (hi2) dX10_now_42 (fun H locs hP hD hS => ?_)
          refine lv_aload_n hx hb dX10_now_43 rfl (lv_at hl 0 rfl) ?_
          refine mg_isChosen hx hb hts hin hown hK hP (by decide +kernel) dX10_now_44 ?_
          refine lv_iload_n hx hb dX10_now_47 rfl (lv_at hl 2 rfl) ?_
          refine lv_iconst (v := 0) hx hb dX10_now_48 (by decide) ?_
          refine ms_isChosen hx hb hK hP hD hS (hi2) dX10_now_49 (fun H locs hP hD hS => ?_)
          refine lv_aload_n hx hb dX10_now_50 rfl (lv_at hl 0 rfl) ?_
          refine mg_sent hx hb hts hin hown hK hP (by decide +kernel) dX10_now_51 ?_
          refine lv_iload_n hx hb dX10_now_54 rfl (lv_at hl 2 rfl) ?_
          refine lv_iconst (v := (-1)) hx hb dX10_now_55 (by decide) ?_
          refine ms_sent hx hb hK hP hD hS (hi2) dX10_now_56 (fun H locs hP hD hS => ?_)
          obtain ⟨x2_2, ex2_2⟩ : ∃ z : Int32, z = x2 + 1 := ⟨_, rfl⟩
          refine lv_iinc (v := x2_2) (lv' := [(2, .int x2_2), (0, .ref h), (1, .int day)]) hx hb dX10_now_57 hl (k := 2) rfl (by rw [ex2_2]; rfl) (by decide) rfl (fun ls hl => ?_)
          refine lv_goto (tgt := 28) hx hb dX10_now_60 (by decide) ?_
          exact ih_28 (k + 1) _ _ (by omega) (by omega) (by rw [ex2_2, ex2]; exact nI_1 _) (by rw [hc2, nar0, hu, nowC]) _ _ hP hD hS _ (lv_sub hl [1, 2, 0] rfl)
    exact lp_28 (n + 1) 0 _ _ (Nat.zero_le _) (by omega) rfl rfl _ _ hP hD hS _ (lv_sub hl [1, 2, 0] rfl)
  · rw [mIn_R, Int32.toInt_toInt64] at c_15
    have b15 : inR (v.1 14 + 1).toInt 20000 day = false := (zI_eq _).mp c_15
    refine lv_bipush (v := (-2)) hx hb dX10_now_18 (by decide) ?_
    exact m_reti hx hb hr hlocks hAe hK hP hD hS rfl dX10_now_20 (by rw [spNow, if_neg (by rw [b15]; decide)])
def spCome (n T : Nat) (v : mS) (t : Int32) : Int32 × mS := if isC n t then (if mSit v T (sI t) && (decide (v.2.1 22 (sI t) = -1) && decide (v.2.1 25 (sI (v.2.1 16 (sI t))) = 0)) then (nI (cnt (mColP v (v.2.1 16 (sI t)) (v.2.1 17 (sI t))) n) + 1, mrU v 22 (sI t) (nI (cnt (mColP v (v.2.1 16 (sI t)) (v.2.1 17 (sI t))) n))) else (-4, v)) else (-2, v)
set_option maxHeartbeats 4000000 in
set_option maxRecDepth 100000 in
/-- come(t) -/
theorem ctX10_come (l : Launch) (D : va_G) (y : Nat → ClassId) (h : Nat) (a : Nat → Nat) (v : mS) (t : Int32) (n T : Nat) (hn : v.1 15 = nI n) (hn1 : n ≤ 150) (ht : v.1 12 = nI T) (hT : T ≤ 15) (htr : ∀ c, c < n → ∃ j, j < 10 ∧ v.2.1 16 c = nI j) : mMi l yX10_come wsX10_come ({ frames := 3, cells := 0, slots := 0, locals := 66 }) D y h a v [.ref h, .int t] (fun r v' => (r, v') = spCome n T v t) := by
  refine mMi_of (cc := cX10_come) (maxL := 2) (ret := (some .int)) rfl rfl (Nat.le_of_ble_eq_true rfl) ?_
  intro p e s m below meth c A ls hat hAe hl
  obtain ⟨hx, hb, hr, hml, hts, hown, hlocks, hK, hP, hD, hA⟩ := hat
  have hin : ∀ w ∈ wsX100, w ∈ wsX10_come := fun _ h9 => List.mem_cons_of_mem _ (List.mem_append_right _ h9)
  have hl : lv_has ls 2 [(0, .ref h), (1, .int t)] := hl
  have hS : va_S A s.heap s.heap [] := va_S.rf
  refine lv_aload_n hx hb dX10_come_0 rfl (lv_at hl 0 rfl) ?_
  refine lv_iload_n hx hb dX10_come_1 rfl (lv_at hl 1 rfl) ?_
  refine m_callip (As := [.int t]) (rest := []) ⟨hx, hb, hml, hown, hts⟩ (ctX10_isCitizen l D y h a v t n hn hn1) (cwV 1 hts gX10_come_X10_isCitizen rfl rfl rfl (by decide +kernel) ⟨Nat.le_of_ble_eq_true rfl, Nat.le_of_ble_eq_true rfl⟩) hK hP hD hS hA rfl hl.1 rfl (Nat.le_of_ble_eq_true rfl) dX10_come_2 ⟨Nat.zero_le _, Nat.zero_le _⟩ (fun H locs hP hD hS => ?_)
  refine lv_topi (fun r2 er2 => ?_)
  refine lv_if_ne (tgt := 11) hx hb dX10_come_5 (by decide) (fun c_5 => ?_) (fun c_5 => ?_)
  · rw [er2] at c_5
    have b5 : isC n t = true := (zI_ne _).mp c_5
    obtain ⟨cc, hcc, etcc⟩ := (inR_c (n := n) (by omega)).mp b5
    have hccc : t.toNatClampNeg = cc := by rw [etcc]; exact nI_clamp (by omega)
    have hicc : vp_in t 150 := by rw [etcc]; exact vp_in_nI (by omega) (by omega)
    obtain ⟨tr, htr1, htr2⟩ := htr cc hcc
    have hitr : vp_in (v.2.1 16 t.toNatClampNeg) 10 := by rw [hccc, htr2]; exact vp_in_nI htr1 (by omega)
    refine lv_aload_n hx hb dX10_come_11 rfl (lv_at hl 0 rfl) ?_
    refine lv_iload_n hx hb dX10_come_12 rfl (lv_at hl 1 rfl) ?_
    refine m_callip (As := [.int t]) (rest := []) ⟨hx, hb, hml, hown, hts⟩ (etcc ▸ ctX10_maySit l D y h a v cc T (by omega) ht hT) (cwV 1 hts gX10_come_X10_maySit rfl rfl rfl (by decide +kernel) ⟨Nat.le_of_ble_eq_true rfl, Nat.le_of_ble_eq_true rfl⟩) hK hP hD hS hA rfl hl.1 rfl (Nat.le_of_ble_eq_true rfl) dX10_come_13 ⟨Nat.zero_le _, Nat.zero_le _⟩ (fun H locs hP hD hS => ?_)
    refine lv_topi (fun r13 er13 => ?_)
    refine lv_if_eq (tgt := 43) hx hb dX10_come_16 (by decide) (fun c_16 => ?_) (fun c_16 => ?_)
    · rw [er13] at c_16
      have b16 : mSit v T cc = false := (zI_eq _).mp c_16
      refine lv_bipush (v := (-4)) hx hb dX10_come_43 (by decide) ?_
      exact m_reti hx hb hr hlocks hAe hK hP hD hS rfl dX10_come_45 (by simp [spCome, b5, show sI t = cc from hccc, b16])
    · rw [er13] at c_16
      have b16 : mSit v T cc = true := (zI_ne _).mp c_16
      refine lv_aload_n hx hb dX10_come_19 rfl (lv_at hl 0 rfl) ?_
      refine mg_place hx hb hts hin hown hK hP (by decide +kernel) dX10_come_20 ?_
      refine lv_iload_n hx hb dX10_come_23 rfl (lv_at hl 1 rfl) ?_
      refine ml_place hx hb hK hP (hicc) dX10_come_24 ?_
      refine lv_iconst (v := (-1)) hx hb dX10_come_25 (by decide) ?_
      refine lv_icmp_ne (tgt := 43) hx hb dX10_come_26 (by decide) (fun c_26 => ?_) (fun c_26 => ?_)
      · rw [hccc] at c_26
        refine lv_bipush (v := (-4)) hx hb dX10_come_43 (by decide) ?_
        exact m_reti hx hb hr hlocks hAe hK hP hD hS rfl dX10_come_45 (by simp [spCome, b5, show sI t = cc from hccc, b16, c_26])
      · rw [hccc] at c_26
        refine lv_aload_n hx hb dX10_come_29 rfl (lv_at hl 0 rfl) ?_
        refine mg_drew hx hb hts hin hown hK hP (by decide +kernel) dX10_come_30 ?_
        refine lv_aload_n hx hb dX10_come_33 rfl (lv_at hl 0 rfl) ?_
        refine mg_tribe hx hb hts hin hown hK hP (by decide +kernel) dX10_come_34 ?_
        refine lv_iload_n hx hb dX10_come_37 rfl (lv_at hl 1 rfl) ?_
        refine ml_tribe hx hb hK hP (hicc) dX10_come_38 ?_
        refine ml_drew hx hb hK hP (hitr) dX10_come_39 ?_
        refine lv_if_eq (tgt := 46) hx hb dX10_come_40 (by decide) (fun c_40 => ?_) (fun c_40 => ?_)
        · rw [hccc] at c_40
          refine lv_aload_n hx hb dX10_come_46 rfl (lv_at hl 0 rfl) ?_
          refine mg_place hx hb hts hin hown hK hP (by decide +kernel) dX10_come_47 ?_
          refine lv_iload_n hx hb dX10_come_50 rfl (lv_at hl 1 rfl) ?_
          refine lv_aload_n hx hb dX10_come_51 rfl (lv_at hl 0 rfl) ?_
          refine lv_aload_n hx hb dX10_come_52 rfl (lv_at hl 0 rfl) ?_
          refine mg_tribe hx hb hts hin hown hK hP (by decide +kernel) dX10_come_53 ?_
          refine lv_iload_n hx hb dX10_come_56 rfl (lv_at hl 1 rfl) ?_
          refine ml_tribe hx hb hK hP (hicc) dX10_come_57 ?_
          refine lv_aload_n hx hb dX10_come_58 rfl (lv_at hl 0 rfl) ?_
          refine mg_letter hx hb hts hin hown hK hP (by decide +kernel) dX10_come_59 ?_
          refine lv_iload_n hx hb dX10_come_62 rfl (lv_at hl 1 rfl) ?_
          refine ml_letter hx hb hK hP (hicc) dX10_come_63 ?_
          refine m_callip (As := [.int _, .int _]) (rest := [.int t, .ref (a 22)]) ⟨hx, hb, hml, hown, hts⟩ (ctX10_column l D y h a v _ _ n hn hn1) (cwV 2 hts gX10_come_X10_column rfl rfl rfl (by decide +kernel) ⟨Nat.le_of_ble_eq_true rfl, Nat.le_of_ble_eq_true rfl⟩) hK hP hD hS hA rfl hl.1 rfl (Nat.le_of_ble_eq_true rfl) dX10_come_64 ⟨Nat.zero_le _, Nat.zero_le _⟩ (fun H locs hP hD hS => ?_)
          refine ms_place hx hb hK hP hD hS (hicc) dX10_come_67 (fun H locs hP hD hS => ?_)
          refine lv_aload_n hx hb dX10_come_68 rfl (lv_at hl 0 rfl) ?_
          refine mg_place hx hb hts hin hown hK hP (by decide +kernel) dX10_come_69 ?_
          refine lv_iload_n hx hb dX10_come_72 rfl (lv_at hl 1 rfl) ?_
          refine ml_place hx hb hK hP (hicc) dX10_come_73 ?_
          refine lv_iconst (v := 1) hx hb dX10_come_74 (by decide) ?_
          refine lv_iadd hx hb dX10_come_75 ?_
          exact m_reti hx hb hr hlocks hAe hK hP hD hS rfl dX10_come_76 (by rw [hccc]; simp [spCome, b5, show sI t = cc from hccc, b16, mrU, va_up, upd, c_26, c_40])
        · rw [hccc] at c_40
          refine lv_bipush (v := (-4)) hx hb dX10_come_43 (by decide) ?_
          exact m_reti hx hb hr hlocks hAe hK hP hD hS rfl dX10_come_45 (by simp [spCome, b5, show sI t = cc from hccc, b16, c_26, c_40])
  · rw [er2] at c_5
    have b5 : isC n t = false := (zI_eq _).mp c_5
    refine lv_bipush (v := (-2)) hx hb dX10_come_8 (by decide) ?_
    exact m_reti hx hb hr hlocks hAe hK hP hD hS rfl dX10_come_10 (by simp [spCome, b5])
abbrev isT (t : Int32) : Bool := inR 0 9 t
abbrev isK (k : Int32) : Bool := inR 0 4 k
def spRows (n : Nat) (v : mS) (t : Int32) : Int32 := if isT t then nI (mRows v t n) else -2
set_option maxHeartbeats 4000000 in
set_option maxRecDepth 100000 in
/-- rows(t) -/
theorem ctX10_rows (l : Launch) (D : va_G) (y : Nat → ClassId) (h : Nat) (a : Nat → Nat) (v : mS) (t : Int32) (n : Nat) (hn : v.1 15 = nI n) (hn1 : n ≤ 150) : mMi l yX10_rows wsX10_rows ({ frames := 2, cells := 0, slots := 0, locals := 47 }) D y h a v [.ref h, .int t] (fun r v' => r = spRows n v t ∧ v' = v) := by
  refine mMi_of (cc := cX10_rows) (maxL := 2) (ret := (some .int)) rfl rfl (Nat.le_of_ble_eq_true rfl) ?_
  intro p e s m below meth c A ls hat hAe hl
  obtain ⟨hx, hb, hr, hml, hts, hown, hlocks, hK, hP, hD, hA⟩ := hat
  have hin : ∀ w ∈ wsX100, w ∈ wsX10_rows := fun _ h9 => List.mem_cons_of_mem _ (List.mem_append_right _ h9)
  have hl : lv_has ls 2 [(0, .ref h), (1, .int t)] := hl
  have hS : va_S A s.heap s.heap [] := va_S.rf
  refine lv_iload_n hx hb dX10_rows_0 rfl (lv_at hl 1 rfl) ?_
  refine s_calli (As := [.int t]) (rest := []) ⟨hx, hb, hml, hown, hts⟩ (ctX10_isTribe l t) (cwS 1 hts gX10_rows_X10_isTribe rfl rfl rfl (by decide +kernel) ⟨Nat.le_of_ble_eq_true rfl, Nat.le_of_ble_eq_true rfl⟩) hP hS rfl hl.1 rfl (Nat.le_of_ble_eq_true rfl) dX10_rows_1 ⟨Nat.zero_le _, Nat.zero_le _⟩ (fun H locs hP hS => ?_)
  refine lv_if_eq (tgt := 15) hx hb dX10_rows_4 (by decide) (fun c_4 => ?_) (fun c_4 => ?_)
  · have b4 : isT t = false := (zI_eq _).mp c_4
    refine lv_bipush (v := (-2)) hx hb dX10_rows_15 (by decide) ?_
    exact m_reti hx hb hr hlocks hAe hK hP hD hS rfl dX10_rows_17 (⟨by simp [spRows, b4], rfl⟩)
  · have b4 : isT t = true := (zI_ne _).mp c_4
    refine lv_aload_n hx hb dX10_rows_7 rfl (lv_at hl 0 rfl) ?_
    refine lv_iload_n hx hb dX10_rows_8 rfl (lv_at hl 1 rfl) ?_
    refine m_callip (As := [.int t]) (rest := []) ⟨hx, hb, hml, hown, hts⟩ (ctX10_rowsOf l D y h a v t n hn hn1) (cwV 1 hts gX10_rows_X10_rowsOf rfl rfl rfl (by decide +kernel) ⟨Nat.le_of_ble_eq_true rfl, Nat.le_of_ble_eq_true rfl⟩) hK hP hD hS hA rfl hl.1 rfl (Nat.le_of_ble_eq_true rfl) dX10_rows_9 ⟨Nat.zero_le _, Nat.zero_le _⟩ (fun H locs hP hD hS => ?_)
    refine lv_goto (tgt := 17) hx hb dX10_rows_12 (by decide) ?_
    exact m_reti hx hb hr hlocks hAe hK hP hD hS rfl dX10_rows_17 (⟨by simp [spRows, b4], rfl⟩)
