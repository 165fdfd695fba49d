/-! the reference: law, feed -/
theorem inR_w {lo hi : Nat} {t : Int32} (h : inR lo hi t = true) (hh : hi < 2 ^ 30) : ∃ c, lo ≤ c ∧ c ≤ hi ∧ t = nI c ∧ sI t = c := by
  have h1 := of_decide_eq_true h
  obtain ⟨c, hc, e⟩ := vp_in_of (x := t) (n := hi + 1) (vp_in_iff.mpr ⟨by omega, by omega⟩) (by omega)
  subst e
  have h2 := nI_toInt (n := c) (by omega)
  exact ⟨c, by omega, by omega, rfl, nI_clamp (by omega)⟩
def spLaw (T : Nat) (v : mS) (day w : Int32) : Int32 := if inR 0 20000 day then (if inR 0 3 w then mLaw v day T (sI w) else if inR 10 15 w then mLaw v day T (sI w - 6) else if inR 20 25 w then mLaw v day T (sI w - 10) else if inR 30 35 w then mLaw v day T (sI w - 14) else if inR 40 45 w then mLaw v day T (sI w - 18) else if w = 50 then oI (fB v day T) else -9) else -9
set_option maxHeartbeats 4000000 in
set_option maxRecDepth 100000 in
/-- law(day, w) -/
theorem ctX10_law (l : Launch) (D : va_G) (y : Nat → ClassId) (h : Nat) (a : Nat → Nat) (v : mS) (day w : Int32) (T : Nat) (ht : v.1 12 = nI T) (hT : T ≤ 15) : mMi l yX10_law wsX10_law ({ frames := 2, cells := 0, slots := 0, locals := 45 }) D y h a v [.ref h, .int day, .int w] (fun r v' => r = spLaw T v day w ∧ v' = v) := by
  refine mMi_of (cc := cX10_law) (maxL := 3) (ret := (some .int)) rfl rfl (Nat.le_of_ble_eq_true rfl) ?_
  intro p e s m below meth c A ls hat hAe hl
  obtain ⟨hx, hb, hr, hml, hts, hown, hlocks, hK, hP, hD, hA⟩ := hat
  have hin : ∀ w ∈ wsX100, w ∈ wsX10_law := fun _ h9 => List.mem_cons_of_mem _ (List.mem_append_right _ h9)
  have hl : lv_has ls 3 [(0, .ref h), (1, .int day), (2, .int w)] := hl
  have hS : va_S A s.heap s.heap [] := va_S.rf
  refine lv_iload_n hx hb dX10_law_0 rfl (lv_at hl 1 rfl) ?_
  refine lv_i2l hx hb dX10_law_1 rfl ?_
  refine lv_lconst (v := 0) hx hb dX10_law_2 (by decide) ?_
  refine lv_ldc2 (v := 20000) hx hb hown (hts (.constantLong RX10 192 (20000)) (by decide +kernel)) dX10_law_3 ?_
  refine s_calli (As := [.long (day.toInt64), .long 0, .long 20000]) (rest := []) ⟨hx, hb, hml, hown, hts⟩ (ctX10_in l _ _ _) (cwS 3 hts gX10_law_X10_in rfl rfl rfl (by decide +kernel) ⟨Nat.le_of_ble_eq_true rfl, Nat.le_of_ble_eq_true rfl⟩) hP hS rfl hl.1 rfl (Nat.le_of_ble_eq_true rfl) dX10_law_6 ⟨Nat.zero_le _, Nat.zero_le _⟩ (fun H locs hP hS => ?_)
  refine lv_if_ne (tgt := 15) hx hb dX10_law_9 (by decide) (fun c_9 => ?_) (fun c_9 => ?_)
  · rw [mIn_R] at c_9
    have b9 : inR 0 20000 day = true := (zI_ne _).mp c_9
    refine lv_iload_n hx hb dX10_law_15 rfl (lv_at hl 2 rfl) ?_
    refine lv_i2l hx hb dX10_law_16 rfl ?_
    refine lv_lconst (v := 0) hx hb dX10_law_17 (by decide) ?_
    refine lv_ldc2 (v := 3) hx hb hown (hts (.constantLong RX10 210 (3)) (by decide +kernel)) dX10_law_18 ?_
    refine s_calli (As := [.long (w.toInt64), .long 0, .long 3]) (rest := []) ⟨hx, hb, hml, hown, hts⟩ (ctX10_in l _ _ _) (cwS 3 hts gX10_law_X10_in rfl rfl rfl (by decide +kernel) ⟨Nat.le_of_ble_eq_true rfl, Nat.le_of_ble_eq_true rfl⟩) hP hS rfl hl.1 rfl (Nat.le_of_ble_eq_true rfl) dX10_law_21 ⟨Nat.zero_le _, Nat.zero_le _⟩ (fun H locs hP hS => ?_)
    refine lv_if_eq (tgt := 34) hx hb dX10_law_24 (by decide) (fun c_24 => ?_) (fun c_24 => ?_)
    · rw [mIn_R] at c_24
      have b24 : inR 0 3 w = false := (zI_eq _).mp c_24
      refine lv_iload_n hx hb dX10_law_34 rfl (lv_at hl 2 rfl) ?_
      refine lv_i2l hx hb dX10_law_35 rfl ?_
      refine lv_ldc2 (v := 10) hx hb hown (hts (.constantLong RX10 215 (10)) (by decide +kernel)) dX10_law_36 ?_
      refine lv_ldc2 (v := 15) hx hb hown (hts (.constantLong RX10 217 (15)) (by decide +kernel)) dX10_law_39 ?_
      refine s_calli (As := [.long (w.toInt64), .long 10, .long 15]) (rest := []) ⟨hx, hb, hml, hown, hts⟩ (ctX10_in l _ _ _) (cwS 3 hts gX10_law_X10_in rfl rfl rfl (by decide +kernel) ⟨Nat.le_of_ble_eq_true rfl, Nat.le_of_ble_eq_true rfl⟩) hP hS rfl hl.1 rfl (Nat.le_of_ble_eq_true rfl) dX10_law_42 ⟨Nat.zero_le _, Nat.zero_le _⟩ (fun H locs hP hS => ?_)
      refine lv_if_eq (tgt := 58) hx hb dX10_law_45 (by decide) (fun c_45 => ?_) (fun c_45 => ?_)
      · rw [mIn_R] at c_45
        have b45 : inR 10 15 w = false := (zI_eq _).mp c_45
        refine lv_iload_n hx hb dX10_law_58 rfl (lv_at hl 2 rfl) ?_
        refine lv_i2l hx hb dX10_law_59 rfl ?_
        refine lv_ldc2 (v := 20) hx hb hown (hts (.constantLong RX10 219 (20)) (by decide +kernel)) dX10_law_60 ?_
        refine lv_ldc2 (v := 25) hx hb hown (hts (.constantLong RX10 221 (25)) (by decide +kernel)) dX10_law_63 ?_
        refine s_calli (As := [.long (w.toInt64), .long 20, .long 25]) (rest := []) ⟨hx, hb, hml, hown, hts⟩ (ctX10_in l _ _ _) (cwS 3 hts gX10_law_X10_in rfl rfl rfl (by decide +kernel) ⟨Nat.le_of_ble_eq_true rfl, Nat.le_of_ble_eq_true rfl⟩) hP hS rfl hl.1 rfl (Nat.le_of_ble_eq_true rfl) dX10_law_66 ⟨Nat.zero_le _, Nat.zero_le _⟩ (fun H locs hP hS => ?_)
        refine lv_if_eq (tgt := 82) hx hb dX10_law_69 (by decide) (fun c_69 => ?_) (fun c_69 => ?_)
        · rw [mIn_R] at c_69
          have b69 : inR 20 25 w = false := (zI_eq _).mp c_69
          refine lv_iload_n hx hb dX10_law_82 rfl (lv_at hl 2 rfl) ?_
          refine lv_i2l hx hb dX10_law_83 rfl ?_
          refine lv_ldc2 (v := 30) hx hb hown (hts (.constantLong RX10 223 (30)) (by decide +kernel)) dX10_law_84 ?_
          refine lv_ldc2 (v := 35) hx hb hown (hts (.constantLong RX10 225 (35)) (by decide +kernel)) dX10_law_87 ?_
          refine s_calli (As := [.long (w.toInt64), .long 30, .long 35]) (rest := []) ⟨hx, hb, hml, hown, hts⟩ (ctX10_in l _ _ _) (cwS 3 hts gX10_law_X10_in rfl rfl rfl (by decide +kernel) ⟨Nat.le_of_ble_eq_true rfl, Nat.le_of_ble_eq_true rfl⟩) hP hS rfl hl.1 rfl (Nat.le_of_ble_eq_true rfl) dX10_law_90 ⟨Nat.zero_le _, Nat.zero_le _⟩ (fun H locs hP hS => ?_)
          refine lv_if_eq (tgt := 106) hx hb dX10_law_93 (by decide) (fun c_93 => ?_) (fun c_93 => ?_)
          · rw [mIn_R] at c_93
            have b93 : inR 30 35 w = false := (zI_eq _).mp c_93
            refine lv_iload_n hx hb dX10_law_106 rfl (lv_at hl 2 rfl) ?_
            refine lv_i2l hx hb dX10_law_107 rfl ?_
            refine lv_ldc2 (v := 40) hx hb hown (hts (.constantLong RX10 227 (40)) (by decide +kernel)) dX10_law_108 ?_
            refine lv_ldc2 (v := 45) hx hb hown (hts (.constantLong RX10 229 (45)) (by decide +kernel)) dX10_law_111 ?_
            refine s_calli (As := [.long (w.toInt64), .long 40, .long 45]) (rest := []) ⟨hx, hb, hml, hown, hts⟩ (ctX10_in l _ _ _) (cwS 3 hts gX10_law_X10_in rfl rfl rfl (by decide +kernel) ⟨Nat.le_of_ble_eq_true rfl, Nat.le_of_ble_eq_true rfl⟩) hP hS rfl hl.1 rfl (Nat.le_of_ble_eq_true rfl) dX10_law_114 ⟨Nat.zero_le _, Nat.zero_le _⟩ (fun H locs hP hS => ?_)
            refine lv_if_eq (tgt := 130) hx hb dX10_law_117 (by decide) (fun c_117 => ?_) (fun c_117 => ?_)
            · rw [mIn_R] at c_117
              have b117 : inR 40 45 w = false := (zI_eq _).mp c_117
              refine lv_iload_n hx hb dX10_law_130 rfl (lv_at hl 2 rfl) ?_
              refine lv_bipush (v := 50) hx hb dX10_law_131 (by decide) ?_
              refine lv_icmp_ne (tgt := 144) hx hb dX10_law_133 (by decide) (fun c_133 => ?_) (fun c_133 => ?_)
              · refine lv_bipush (v := (-9)) hx hb dX10_law_144 (by decide) ?_
                exact m_reti hx hb hr hlocks hAe hK hP hD hS rfl dX10_law_146 (⟨by simp [spLaw, b9, b24, b45, b69, b93, b117, c_133], rfl⟩)
              · refine lv_aload_n hx hb dX10_law_136 rfl (lv_at hl 0 rfl) ?_
                refine lv_iload_n hx hb dX10_law_137 rfl (lv_at hl 1 rfl) ?_
                refine m_callip (As := [.int day]) (rest := []) ⟨hx, hb, hml, hown, hts⟩ (ctX10_force l D y h a v day T ht hT) (cwV 1 hts gX10_law_X10_force rfl rfl rfl (by decide +kernel) ⟨Nat.le_of_ble_eq_true rfl, Nat.le_of_ble_eq_true rfl⟩) hK hP hD hS hA rfl hl.1 rfl (Nat.le_of_ble_eq_true rfl) dX10_law_138 ⟨Nat.zero_le _, Nat.zero_le _⟩ (fun H locs hP hD hS => ?_)
                refine lv_goto (tgt := 146) hx hb dX10_law_141 (by decide) ?_
                exact m_reti hx hb hr hlocks hAe hK hP hD hS rfl dX10_law_146 (⟨by rw [spLaw]; simp only [b9, b24, b45, b69, b93, b117, if_true, Bool.false_eq_true, if_false]; rw [if_pos c_133], rfl⟩)
            · rw [mIn_R] at c_117
              have b117 : inR 40 45 w = true := (zI_ne _).mp c_117
              obtain ⟨ww, hw1, hw2, etw, hsw⟩ := inR_w (lo := 40) (hi := 45) b117 (by omega)
              have hws : w - 18 = nI (ww - 18) := by rw [etw, show (18 : Int32) = nI 18 from rfl, pk_sub (by omega)]
              refine lv_aload_n hx hb dX10_law_120 rfl (lv_at hl 0 rfl) ?_
              refine lv_iload_n hx hb dX10_law_121 rfl (lv_at hl 1 rfl) ?_
              refine lv_iload_n hx hb dX10_law_122 rfl (lv_at hl 2 rfl) ?_
              refine lv_bipush (v := 18) hx hb dX10_law_123 (by decide) ?_
              refine lv_isub hx hb dX10_law_125 ?_
              rw [hws]
              refine m_callip (As := [.int day, .int (nI (ww - 18))]) (rest := []) ⟨hx, hb, hml, hown, hts⟩ (ctX10_lawOf l D y h a v day (ww - 18) T (by omega) ht hT) (cwV 2 hts gX10_law_X10_lawOf rfl rfl rfl (by decide +kernel) ⟨Nat.le_of_ble_eq_true rfl, Nat.le_of_ble_eq_true rfl⟩) hK hP hD hS hA rfl hl.1 rfl (Nat.le_of_ble_eq_true rfl) dX10_law_126 ⟨Nat.zero_le _, Nat.zero_le _⟩ (fun H locs hP hD hS => ?_)
              exact m_reti hx hb hr hlocks hAe hK hP hD hS rfl dX10_law_129 (⟨by simp [spLaw, hsw, b9, b24, b45, b69, b93, b117], rfl⟩)
          · rw [mIn_R] at c_93
            have b93 : inR 30 35 w = true := (zI_ne _).mp c_93
            obtain ⟨ww, hw1, hw2, etw, hsw⟩ := inR_w (lo := 30) (hi := 35) b93 (by omega)
            have hws : w - 14 = nI (ww - 14) := by rw [etw, show (14 : Int32) = nI 14 from rfl, pk_sub (by omega)]
            refine lv_aload_n hx hb dX10_law_96 rfl (lv_at hl 0 rfl) ?_
            refine lv_iload_n hx hb dX10_law_97 rfl (lv_at hl 1 rfl) ?_
            refine lv_iload_n hx hb dX10_law_98 rfl (lv_at hl 2 rfl) ?_
            refine lv_bipush (v := 14) hx hb dX10_law_99 (by decide) ?_
            refine lv_isub hx hb dX10_law_101 ?_
            rw [hws]
            refine m_callip (As := [.int day, .int (nI (ww - 14))]) (rest := []) ⟨hx, hb, hml, hown, hts⟩ (ctX10_lawOf l D y h a v day (ww - 14) T (by omega) ht hT) (cwV 2 hts gX10_law_X10_lawOf rfl rfl rfl (by decide +kernel) ⟨Nat.le_of_ble_eq_true rfl, Nat.le_of_ble_eq_true rfl⟩) hK hP hD hS hA rfl hl.1 rfl (Nat.le_of_ble_eq_true rfl) dX10_law_102 ⟨Nat.zero_le _, Nat.zero_le _⟩ (fun H locs hP hD hS => ?_)
            exact m_reti hx hb hr hlocks hAe hK hP hD hS rfl dX10_law_105 (⟨by simp [spLaw, hsw, b9, b24, b45, b69, b93], rfl⟩)
        · rw [mIn_R] at c_69
          have b69 : inR 20 25 w = true := (zI_ne _).mp c_69
          obtain ⟨ww, hw1, hw2, etw, hsw⟩ := inR_w (lo := 20) (hi := 25) b69 (by omega)
          have hws : w - 10 = nI (ww - 10) := by rw [etw, show (10 : Int32) = nI 10 from rfl, pk_sub (by omega)]
          refine lv_aload_n hx hb dX10_law_72 rfl (lv_at hl 0 rfl) ?_
          refine lv_iload_n hx hb dX10_law_73 rfl (lv_at hl 1 rfl) ?_
          refine lv_iload_n hx hb dX10_law_74 rfl (lv_at hl 2 rfl) ?_
          refine lv_bipush (v := 10) hx hb dX10_law_75 (by decide) ?_
          refine lv_isub hx hb dX10_law_77 ?_
          rw [hws]
          refine m_callip (As := [.int day, .int (nI (ww - 10))]) (rest := []) ⟨hx, hb, hml, hown, hts⟩ (ctX10_lawOf l D y h a v day (ww - 10) T (by omega) ht hT) (cwV 2 hts gX10_law_X10_lawOf rfl rfl rfl (by decide +kernel) ⟨Nat.le_of_ble_eq_true rfl, Nat.le_of_ble_eq_true rfl⟩) hK hP hD hS hA rfl hl.1 rfl (Nat.le_of_ble_eq_true rfl) dX10_law_78 ⟨Nat.zero_le _, Nat.zero_le _⟩ (fun H locs hP hD hS => ?_)
          exact m_reti hx hb hr hlocks hAe hK hP hD hS rfl dX10_law_81 (⟨by simp [spLaw, hsw, b9, b24, b45, b69], rfl⟩)
      · rw [mIn_R] at c_45
        have b45 : inR 10 15 w = true := (zI_ne _).mp c_45
        obtain ⟨ww, hw1, hw2, etw, hsw⟩ := inR_w (lo := 10) (hi := 15) b45 (by omega)
        have hws : w - 6 = nI (ww - 6) := by rw [etw, show (6 : Int32) = nI 6 from rfl, pk_sub (by omega)]
        refine lv_aload_n hx hb dX10_law_48 rfl (lv_at hl 0 rfl) ?_
        refine lv_iload_n hx hb dX10_law_49 rfl (lv_at hl 1 rfl) ?_
        refine lv_iload_n hx hb dX10_law_50 rfl (lv_at hl 2 rfl) ?_
        refine lv_bipush (v := 6) hx hb dX10_law_51 (by decide) ?_
        refine lv_isub hx hb dX10_law_53 ?_
        rw [hws]
        refine m_callip (As := [.int day, .int (nI (ww - 6))]) (rest := []) ⟨hx, hb, hml, hown, hts⟩ (ctX10_lawOf l D y h a v day (ww - 6) T (by omega) ht hT) (cwV 2 hts gX10_law_X10_lawOf rfl rfl rfl (by decide +kernel) ⟨Nat.le_of_ble_eq_true rfl, Nat.le_of_ble_eq_true rfl⟩) hK hP hD hS hA rfl hl.1 rfl (Nat.le_of_ble_eq_true rfl) dX10_law_54 ⟨Nat.zero_le _, Nat.zero_le _⟩ (fun H locs hP hD hS => ?_)
        exact m_reti hx hb hr hlocks hAe hK hP hD hS rfl dX10_law_57 (⟨by simp [spLaw, hsw, b9, b24, b45], rfl⟩)
    · rw [mIn_R] at c_24
      have b24 : inR 0 3 w = true := (zI_ne _).mp c_24
      obtain ⟨ww, hw1, hw2, etw, hsw⟩ := inR_w (lo := 0) (hi := 3) b24 (by omega)
      refine lv_aload_n hx hb dX10_law_27 rfl (lv_at hl 0 rfl) ?_
      refine lv_iload_n hx hb dX10_law_28 rfl (lv_at hl 1 rfl) ?_
      refine lv_iload_n hx hb dX10_law_29 rfl (lv_at hl 2 rfl) ?_
      refine m_callip (As := [.int day, .int w]) (rest := []) ⟨hx, hb, hml, hown, hts⟩ (etw ▸ ctX10_lawOf l D y h a v day ww T (by omega) ht hT) (cwV 2 hts gX10_law_X10_lawOf rfl rfl rfl (by decide +kernel) ⟨Nat.le_of_ble_eq_true rfl, Nat.le_of_ble_eq_true rfl⟩) hK hP hD hS hA rfl hl.1 rfl (Nat.le_of_ble_eq_true rfl) dX10_law_30 ⟨Nat.zero_le _, Nat.zero_le _⟩ (fun H locs hP hD hS => ?_)
      exact m_reti hx hb hr hlocks hAe hK hP hD hS rfl dX10_law_33 (⟨by simp [spLaw, hsw, b9, b24], rfl⟩)
  · rw [mIn_R] at c_9
    have b9 : inR 0 20000 day = false := (zI_eq _).mp c_9
    refine lv_bipush (v := (-9)) hx hb dX10_law_12 (by decide) ?_
    exact m_reti hx hb hr hlocks hAe hK hP hD hS rfl dX10_law_14 (⟨by simp [spLaw, b9], rfl⟩)
def fd1 (v : mS) (x sh : Int32) : mS := miU (mrU v 0 (sI (v.1 1)) ((x >>> (sh &&& 31)).toInt8.toInt32)) 1 (v.1 1 + 1)
def fdJ (u : mS) (x : Int32) : Nat → mS
  | 0 => u
  | j + 1 => fd1 (fdJ u x j) x (24 - 8 * nI j)
def fdX (x1 x2 x3 x4 x5 : Int32) (k : Nat) : Int32 := if k = 0 then x1 else if k = 1 then x2 else if k = 2 then x3 else if k = 3 then x4 else x5
def fdK (v : mS) (xs : Nat → Int32) : Nat → mS
  | 0 => v
  | k + 1 => fdJ (fdK v xs k) (xs k) 4
theorem fdJ_t {u : mS} {t : Nat} (h : u.1 1 = nI t) (x : Int32) (j : Nat) : (fdJ u x j).1 1 = nI (t + j) := by
  induction j with
  | zero => exact h
  | succ j ih =>
    rw [fdJ, fd1]
    show upd (fdJ u x j).1 1 _ 1 = _
    rw [pk_us, ih, nI_1]; rfl
theorem fdK_t {v : mS} {t : Nat} (h : v.1 1 = nI t) (xs : Nat → Int32) (k : Nat) : (fdK v xs k).1 1 = nI (t + 4 * k) := by
  induction k with
  | zero => exact h
  | succ k ih => rw [fdK, fdJ_t ih]; rfl
theorem sh_lt {j : Nat} (h : j ≤ 4) : ((24 : Int32) - 8 * nI j < 0) ↔ j = 4 := by
  rcases (show j = 0 ∨ j = 1 ∨ j = 2 ∨ j = 3 ∨ j = 4 by omega) with rfl | rfl | rfl | rfl | rfl <;> decide
theorem sh_s {j : Nat} (h : j ≤ 3) : (24 : Int32) - 8 * nI j + (-8) = 24 - 8 * nI (j + 1) := by
  rcases (show j = 0 ∨ j = 1 ∨ j = 2 ∨ j = 3 by omega) with rfl | rfl | rfl | rfl <;> decide
def spFeed (t : Nat) (v : mS) (xs : Nat → Int32) : Int32 × mS := if t + 20 ≤ 1000 then (nI (t + 20), fdK v xs 5) else (-3, v)
set_option maxHeartbeats 4000000 in
set_option maxRecDepth 100000 in
/-- feed -/
theorem ctX10_feed (l : Launch) (D : va_G) (y : Nat → ClassId) (h : Nat) (a : Nat → Nat) (v : mS) (x1 x2 x3 x4 x5 : Int32) (t : Nat) (htp : v.1 1 = nI t) (ht1 : t ≤ 1000) : mMi l yX10_feed wsX10_feed ({ frames := 0, cells := 0, slots := 0, locals := 0 }) D y h a v [.ref h, .int x1, .int x2, .int x3, .int x4, .int x5] (fun r v' => (r, v') = spFeed t v (fdX x1 x2 x3 x4 x5)) := by
  refine mMi_of (cc := cX10_feed) (maxL := 9) (ret := (some .int)) rfl rfl (Nat.le_of_ble_eq_true rfl) ?_
  intro p e s m below meth c A ls hat hAe hl
  obtain ⟨hx, hb, hr, hml, hts, hown, hlocks, hK, hP, hD, hA⟩ := hat
  have hin : ∀ w ∈ wsX100, w ∈ wsX10_feed := fun _ h9 => List.mem_cons_of_mem _ (List.mem_append_right _ h9)
  have hl : lv_has ls 9 [(0, .ref h), (1, .int x1), (2, .int x2), (3, .int x3), (4, .int x4), (5, .int x5)] := hl
  have hS : va_S A s.heap s.heap [] := va_S.rf
  refine lv_aload_n hx hb dX10_feed_0 rfl (lv_at hl 0 rfl) ?_
  refine mg_taped hx hb hts hin hown hK hP (by decide +kernel) dX10_feed_1 ?_
  refine lv_bipush (v := 20) hx hb dX10_feed_4 (by decide) ?_
  refine lv_iadd hx hb dX10_feed_6 ?_
  refine lv_sipush (v := 1000) hx hb dX10_feed_7 (by decide) ?_
  refine lv_icmp_le (tgt := 16) hx hb dX10_feed_10 (by decide) (fun c_10 => ?_) (fun c_10 => ?_)
  · have hfit : t + 20 ≤ 1000 := by rw [htp, show (20 : Int32) = nI 20 from rfl, nI_add] at c_10; exact (nI_leI (b := 1000) (by omega) (by omega)).mp c_10
    refine lv_iconst (v := 0) hx hb dX10_feed_16 (by decide) ?_
    refine lv_istore (lv' := [(6, .int 0), (0, .ref h), (1, .int x1), (2, .int x2), (3, .int x3), (4, .int x4), (5, .int x5)]) hx hb dX10_feed_17 hl (by decide) rfl (fun ls hl => ?_)
    have lp_19 : ∀ (n_19 : Nat) (k : Nat) (u : mS) (x6 : Int32), (k ≤ 5) → (6 ≤ k + n_19) → (x6 = nI k) → (u = fdK v (fdX x1 x2 x3 x4 x5) k) → ∀ (H : Heap) (locs : List Loc), va_P D vwCl (mW h a y u) H → va_D A (mW h a y u) → va_S A s.heap H locs → ∀ (ls : Array Slot), lv_has ls 9 [(0, .ref h), (1, .int x1), (2, .int x2), (3, .int x3), (4, .int x4), (5, .int x5), (6, .int x6)] → W p l e (headSpec wsX10_feed ({ frames := 0, cells := 0, slots := 0, locals := 0 })).room s m ([.ref h, .int x1, .int x2, .int x3, .int x4, .int x5] : List Value).toArray below meth c H locs 0 0 (MQ below (va_Qi (fun r v' => (r, v') = spFeed t v (fdX x1 x2 x3 x4 x5)) (mEnd D y h a s.heap.size) A) ([.ref h, .int x1, .int x2, .int x3, .int x4, .int x5] : List Value).toArray s 0 0 A) (F0 m 19 ls []) := by
      intro n_19
      induction n_19 with
      | zero =>
        intro k u x6 hk hf ex6 hu
        exact absurd hf (by omega)
      | succ n_19 ih_19 =>
        intro k u x6 hk hf ex6 hu H locs hP hD hS ls hl
        refine lv_iload hx hb dX10_feed_19 (lv_at hl 6 rfl) ?_
        refine lv_iconst (v := 5) hx hb dX10_feed_21 (by decide) ?_
        refine lv_icmp_ge (tgt := 115) hx hb dX10_feed_22 (by decide) (fun c_22 => ?_) (fun c_22 => ?_)
        · have hk5 : k = 5 := by rw [ex6] at c_22; have := (nI_leI (a := 5) (by omega) (by omega)).mp c_22; omega
          refine lv_aload_n hx hb dX10_feed_115 rfl (lv_at hl 0 rfl) ?_
          refine mg_taped hx hb hts hin hown hK hP (by decide +kernel) dX10_feed_116 ?_
          exact m_reti hx hb hr hlocks hAe hK hP hD hS rfl dX10_feed_119 (by rw [spFeed, if_pos hfit, hu, hk5, fdK_t htp])
        · have hk5 : k < 5 := by rw [ex6] at c_22; exact Nat.not_le.mp (fun q => c_22 (nI_le (a := 5) q (by omega)))
          have j_67 : ∀ z7 : Int32, z7 = (fdX x1 x2 x3 x4 x5) k → W p l e (headSpec wsX10_feed ({ frames := 0, cells := 0, slots := 0, locals := 0 })).room s m ([.ref h, .int x1, .int x2, .int x3, .int x4, .int x5] : List Value).toArray below meth c H locs 0 0 (MQ below (va_Qi (fun r v' => (r, v') = spFeed t v (fdX x1 x2 x3 x4 x5)) (mEnd D y h a s.heap.size) A) ([.ref h, .int x1, .int x2, .int x3, .int x4, .int x5] : List Value).toArray s 0 0 A) (F0 m 67 ls (.int z7 :: [])) := by
            intro z7 hz7
            refine lv_istore (lv' := [(7, .int z7), (0, .ref h), (1, .int x1), (2, .int x2), (3, .int x3), (4, .int x4), (5, .int x5), (6, .int x6)]) hx hb dX10_feed_67 hl (by decide) rfl (fun ls hl => ?_)
            refine lv_bipush (v := 24) hx hb dX10_feed_69 (by decide) ?_
            refine lv_istore (lv' := [(8, .int 24), (7, .int z7), (0, .ref h), (1, .int x1), (2, .int x2), (3, .int x3), (4, .int x4), (5, .int x5), (6, .int x6)]) hx hb dX10_feed_71 hl (by decide) rfl (fun ls hl => ?_)
            have lp_73 : ∀ (n_73 : Nat) (j : Nat) (u' : mS) (x8 : Int32), (j ≤ 4) → (5 ≤ j + n_73) → (x8 = 24 - 8 * nI j) → (u' = fdJ u ((fdX x1 x2 x3 x4 x5) k) j) → ∀ (H : Heap) (locs : List Loc), va_P D vwCl (mW h a y u') H → va_D A (mW h a y u') → va_S A s.heap H locs → ∀ (ls : Array Slot), lv_has ls 9 [(0, .ref h), (1, .int x1), (2, .int x2), (3, .int x3), (4, .int x4), (5, .int x5), (6, .int x6), (7, .int z7), (8, .int x8)] → W p l e (headSpec wsX10_feed ({ frames := 0, cells := 0, slots := 0, locals := 0 })).room s m ([.ref h, .int x1, .int x2, .int x3, .int x4, .int x5] : List Value).toArray below meth c H locs 0 0 (MQ below (va_Qi (fun r v' => (r, v') = spFeed t v (fdX x1 x2 x3 x4 x5)) (mEnd D y h a s.heap.size) A) ([.ref h, .int x1, .int x2, .int x3, .int x4, .int x5] : List Value).toArray s 0 0 A) (F0 m 73 ls []) := by
              intro n_73
              induction n_73 with
              | zero =>
                intro j u' x8 hj hjf ex8 hu'
                exact absurd hjf (by omega)
              | succ n_73 ih_73 =>
                intro j u' x8 hj hjf ex8 hu' H locs hP hD hS ls hl
                refine lv_iload hx hb dX10_feed_73 (lv_at hl 8 rfl) ?_
                refine lv_if_lt (tgt := 109) hx hb dX10_feed_75 (by decide) (fun c_75 => ?_) (fun c_75 => ?_)
                · have hj4 : j = 4 := by rw [ex8] at c_75; exact (sh_lt hj).mp c_75
                  obtain ⟨x6_1, ex6_1⟩ : ∃ z : Int32, z = x6 + 1 := ⟨_, rfl⟩
                  refine lv_iinc (v := x6_1) (lv' := [(6, .int x6_1), (0, .ref h), (1, .int x1), (2, .int x2), (3, .int x3), (4, .int x4), (5, .int x5), (7, .int z7), (8, .int x8)]) hx hb dX10_feed_109 hl (k := 6) rfl (by rw [ex6_1]; rfl) (by decide) rfl (fun ls hl => ?_)
                  refine lv_goto (tgt := 19) hx hb dX10_feed_112 (by decide) ?_
                  exact ih_19 (k + 1) _ _ (by omega) (by omega) (by rw [ex6_1, ex6]; exact nI_1 _) (by rw [hu', hj4, hu, fdK]) _ _ hP hD hS _ (lv_sub hl [1, 2, 3, 4, 5, 6, 0] rfl)
                · have hj4 : j ≤ 3 := by rw [ex8] at c_75; have : ¬ j = 4 := fun q => c_75 ((sh_lt hj).mpr q); omega
                  have htj : u'.1 1 = nI (t + 4 * k + j) := by rw [hu']; exact fdJ_t (by rw [hu]; exact fdK_t htp _ _) _ _
                  refine lv_aload_n hx hb dX10_feed_78 rfl (lv_at hl 0 rfl) ?_
                  refine mg_tape hx hb hts hin hown hK hP (by decide +kernel) dX10_feed_79 ?_
                  refine lv_aload_n hx hb dX10_feed_82 rfl (lv_at hl 0 rfl) ?_
                  refine mg_taped hx hb hts hin hown hK hP (by decide +kernel) dX10_feed_83 ?_
                  refine lv_iload hx hb dX10_feed_86 (lv_at hl 7 rfl) ?_
                  refine lv_iload hx hb dX10_feed_88 (lv_at hl 8 rfl) ?_
                  refine lv_ishr hx hb dX10_feed_90 ?_
                  refine lv_i2b hx hb dX10_feed_91 rfl ?_
                  refine ms_tape hx hb hK hP hD hS (by rw [htj]; exact vp_in_nI (by omega) (by omega)) dX10_feed_92 (fun H locs hP hD hS => ?_)
                  refine lv_aload_n hx hb dX10_feed_93 rfl (lv_at hl 0 rfl) ?_
                  refine lv_dup hx hb dX10_feed_94 rfl ?_
                  refine mg_taped hx hb hts hin hown hK hP (by decide +kernel) dX10_feed_95 ?_
                  refine lv_iconst (v := 1) hx hb dX10_feed_98 (by decide) ?_
                  refine lv_iadd hx hb dX10_feed_99 ?_
                  refine mp_taped hx hb hts hin hown hK hP hD hS (by decide +kernel) dX10_feed_100 (fun H locs hP hD hS => ?_)
                  obtain ⟨x8_2, ex8_2⟩ : ∃ z : Int32, z = x8 + (-8) := ⟨_, rfl⟩
                  refine lv_iinc (v := x8_2) (lv' := [(8, .int x8_2), (0, .ref h), (1, .int x1), (2, .int x2), (3, .int x3), (4, .int x4), (5, .int x5), (6, .int x6), (7, .int z7)]) hx hb dX10_feed_103 hl (k := 8) rfl (by rw [ex8_2]; rfl) (by decide) rfl (fun ls hl => ?_)
                  refine lv_goto (tgt := 73) hx hb dX10_feed_106 (by decide) ?_
                  exact ih_73 (j + 1) _ _ (by omega) (by omega) (by rw [ex8_2, ex8]; exact sh_s hj4) (by rw [pk_vb, hz7, hu', fdJ, fd1, ex8]; rfl) _ _ hP hD hS _ (lv_sub hl [1, 2, 3, 4, 5, 6, 7, 8, 0] rfl)
            exact lp_73 5 0 _ _ (Nat.zero_le _) (by omega) (by decide) rfl _ _ hP hD hS _ (lv_sub hl [2, 3, 4, 5, 6, 7, 8, 1, 0] rfl)
          refine lv_iload hx hb dX10_feed_25 (lv_at hl 6 rfl) ?_
          refine lv_if_ne (tgt := 34) hx hb dX10_feed_27 (by decide) (fun c_27 => ?_) (fun c_27 => ?_)
          · have hk0 : ¬ k = 0 := fun q => c_27 (by rw [ex6, q]; rfl)
            refine lv_iload hx hb dX10_feed_34 (lv_at hl 6 rfl) ?_
            refine lv_iconst (v := 1) hx hb dX10_feed_36 (by decide) ?_
            refine lv_icmp_ne (tgt := 44) hx hb dX10_feed_37 (by decide) (fun c_37 => ?_) (fun c_37 => ?_)
            · have hk1 : ¬ k = 1 := fun q => c_37 (by rw [ex6, q]; rfl)
              refine lv_iload hx hb dX10_feed_44 (lv_at hl 6 rfl) ?_
              refine lv_iconst (v := 2) hx hb dX10_feed_46 (by decide) ?_
              refine lv_icmp_ne (tgt := 54) hx hb dX10_feed_47 (by decide) (fun c_47 => ?_) (fun c_47 => ?_)
              · have hk2 : ¬ k = 2 := fun q => c_47 (by rw [ex6, q]; rfl)
                refine lv_iload hx hb dX10_feed_54 (lv_at hl 6 rfl) ?_
                refine lv_iconst (v := 3) hx hb dX10_feed_56 (by decide) ?_
                refine lv_icmp_ne (tgt := 65) hx hb dX10_feed_57 (by decide) (fun c_57 => ?_) (fun c_57 => ?_)
                · have hk3 : ¬ k = 3 := fun q => c_57 (by rw [ex6, q]; rfl)
                  refine lv_iload hx hb dX10_feed_65 (lv_at hl 5 rfl) ?_
                  exact j_67 _ (by simp [fdX, hk0, hk1, hk2, hk3])
                · have hk3 : k = 3 := by rw [ex6] at c_57; exact (nI_eq (b := 3) (by omega) (by omega)).mp c_57
                  refine lv_iload hx hb dX10_feed_60 (lv_at hl 4 rfl) ?_
                  refine lv_goto (tgt := 67) hx hb dX10_feed_62 (by decide) ?_
                  exact j_67 _ (by simp [fdX, hk0, hk1, hk2, hk3])
              · have hk2 : k = 2 := by rw [ex6] at c_47; exact (nI_eq (b := 2) (by omega) (by omega)).mp c_47
                refine lv_iload_n hx hb dX10_feed_50 rfl (lv_at hl 3 rfl) ?_
                refine lv_goto (tgt := 67) hx hb dX10_feed_51 (by decide) ?_
                exact j_67 _ (by simp [fdX, hk0, hk1, hk2])
            · have hk1 : k = 1 := by rw [ex6] at c_37; exact (nI_eq (b := 1) (by omega) (by omega)).mp c_37
              refine lv_iload_n hx hb dX10_feed_40 rfl (lv_at hl 2 rfl) ?_
              refine lv_goto (tgt := 67) hx hb dX10_feed_41 (by decide) ?_
              exact j_67 _ (by simp [fdX, hk0, hk1])
          · have hk0 : k = 0 := by rw [ex6] at c_27; exact (nI_eq (b := 0) (by omega) (by omega)).mp c_27
            refine lv_iload_n hx hb dX10_feed_30 rfl (lv_at hl 1 rfl) ?_
            refine lv_goto (tgt := 67) hx hb dX10_feed_31 (by decide) ?_
            exact j_67 _ (by simp [fdX, hk0])
    exact lp_19 6 0 _ _ (Nat.zero_le _) (by omega) rfl rfl _ _ hP hD hS _ (lv_sub hl [1, 2, 3, 4, 5, 6, 0] rfl)
  · have hfit : ¬ t + 20 ≤ 1000 := fun q => by rw [htp, show (20 : Int32) = nI 20 from rfl, nI_add] at c_10; exact c_10 (nI_le (b := 1000) q (by omega))
    refine lv_bipush (v := (-3)) hx hb dX10_feed_13 (by decide) ?_
    exact m_reti hx hb hr hlocks hAe hK hP hD hS rfl dX10_feed_15 (by rw [spFeed, if_neg hfit])
