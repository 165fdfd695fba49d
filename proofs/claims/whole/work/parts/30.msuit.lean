/-! the reference: suit -/
theorem fB_c {u v : mS} (h : u.2.1 11 = v.2.1 11) (day : Int32) (t : Nat) : fB u day t = fB v day t := by
  induction t with
  | zero => rfl
  | succ t ih => rw [fB, fB, ih, h]
theorem mLaw_c {u v : mS} (h : u.2.1 11 = v.2.1 11) (h2 : u.2.1 10 = v.2.1 10) (day : Int32) (T w : Nat) : mLaw u day T w = mLaw v day T w := by rw [mLaw, mLaw, fB_c h, h2]
def suA (v : mS) (K : Nat) (q ac bc s : Int32) : mS := mrU (mrU (mrU (mrU (mrU (mrU v 36 K 1) 37 K 1) 38 K q) 39 K ac) 40 K bc) 41 K s
def suMin (T : Nat) (v : mS) (q s : Int32) : Int32 := if ¬ mLaw v (v.1 14) T (10 + sI q) = -1 ∧ ¬ s ≤ mLaw v (v.1 14) T (10 + sI q) then mLaw v (v.1 14) T (16 + sI q) else mLaw v (v.1 14) T (4 + sI q)
def suB (u : mS) (K : Nat) (mn : Int32) : mS := mrU (mrU u 42 (2 * K + 0) mn) 42 (2 * K + 1) mn
def suC (u : mS) (K : Nat) : mS := mrU (mrU (mrU (mrU (mrU u 43 K 0) 44 K 0) 45 K (-1)) 46 K (-1)) 47 K (-1)
def suD (u : mS) (K : Nat) : Nat → mS
  | 0 => u
  | j + 1 => mrU (mrU (suD u K j) 34 (25 * K + j) (-1)) 35 (25 * K + j) 0
def okSuit (n : Nat) (ns : Nat → Nat) (v : mS) (k q ac bc s : Int32) : Bool := isK k && (inR 0 5 q && (isC n ac && (isC n bc && (!decide (ac = bc) && (inR 0 1000000 s && (!decide (dSeat ns v (sI k) ac < ns (sI k)) && !decide (dSeat ns v (sI k) bc < ns (sI k))))))))
def spSuit (n T : Nat) (ns : Nat → Nat) (v : mS) (k q ac bc s : Int32) : Int32 × mS := if okSuit n ns v k q ac bc s then (if v.2.1 31 (sI k) = 0 ∨ v.2.1 32 (sI k) < v.2.1 31 (sI k) ∨ ¬ v.2.1 36 (sI k) = 0 then (-4, v) else (suMin T v q s, suD (suC (suB (suA v (sI k) q ac bc s) (sI k) (suMin T v q s)) (sI k)) (sI k) 25)) else (-2, v)
set_option maxHeartbeats 4000000 in
set_option maxRecDepth 100000 in
/-- suit(k, q, ac, bc, s9) -/
theorem ctX10_suit (l : Launch) (D : va_G) (y : Nat → ClassId) (h : Nat) (a : Nat → Nat) (v : mS) (k q ac bc s9 : Int32) (n T : Nat) (ns : Nat → Nat) (hn : v.1 15 = nI n) (hn1 : n ≤ 150) (ht : v.1 12 = nI T) (hT : T ≤ 15) (hns : ∀ k, k < 5 → v.2.1 32 k = nI (ns k) ∧ ns k ≤ 25) : mMi l yX10_suit wsX10_suit ({ frames := 2, cells := 0, slots := 0, locals := 46 }) D y h a v [.ref h, .int k, .int q, .int ac, .int bc, .int s9] (fun r v' => (r, v') = spSuit n T ns v k q ac bc s9) := by
  refine mMi_of (cc := cX10_suit) (maxL := 9) (ret := (some .int)) rfl rfl (Nat.le_of_ble_eq_true rfl) ?_
  intro p e s m below meth c A ls hat hAe hl
  obtain ⟨hx, hb, hr, hml, hts, hown, hlocks, hK, hP, hD, hA⟩ := hat
  have hin : ∀ w ∈ wsX100, w ∈ wsX10_suit := fun _ h9 => List.mem_cons_of_mem _ (List.mem_append_right _ h9)
  have hl : lv_has ls 9 [(0, .ref h), (1, .int k), (2, .int q), (3, .int ac), (4, .int bc), (5, .int s9)] := hl
  have hS : va_S A s.heap s.heap [] := va_S.rf
  refine lv_iload_n hx hb dX10_suit_0 rfl (lv_at hl 1 rfl) ?_
  refine s_calli (As := [.int k]) (rest := []) ⟨hx, hb, hml, hown, hts⟩ (ctX10_isCourt l k) (cwS 1 hts gX10_suit_X10_isCourt rfl rfl rfl (by decide +kernel) ⟨Nat.le_of_ble_eq_true rfl, Nat.le_of_ble_eq_true rfl⟩) hP hS rfl hl.1 rfl (Nat.le_of_ble_eq_true rfl) dX10_suit_1 ⟨Nat.zero_le _, Nat.zero_le _⟩ (fun H locs hP hS => ?_)
  refine lv_if_eq (tgt := 76) hx hb dX10_suit_4 (by decide) (fun c_4 => ?_) (fun c_4 => ?_)
  · have b4 : isK k = false := (zI_eq _).mp c_4
    refine lv_bipush (v := (-2)) hx hb dX10_suit_76 (by decide) ?_
    exact m_reti hx hb hr hlocks hAe hK hP hD hS rfl dX10_suit_78 (by rw [spSuit, if_neg (by simp only [okSuit]; simp [b4])])
  · have b4 : isK k = true := (zI_ne _).mp c_4
    obtain ⟨kk, hk5, etk⟩ := (inR_k 5 (hi := 4) rfl (by omega)).mp b4
    have hck : k.toNatClampNeg = kk := by rw [etk]; exact nI_clamp (by omega)
    have hik : vp_in k 5 := by rw [etk]; exact vp_in_nI hk5 (by omega)
    obtain ⟨hsn, hn25⟩ := hns kk hk5
    have hsk : sI k = kk := hck
    refine lv_iload_n hx hb dX10_suit_7 rfl (lv_at hl 2 rfl) ?_
    refine lv_i2l hx hb dX10_suit_8 rfl ?_
    refine lv_lconst (v := 0) hx hb dX10_suit_9 (by decide) ?_
    refine lv_ldc2 (v := 5) hx hb hown (hts (.constantLong RX10 279 (5)) (by decide +kernel)) dX10_suit_10 ?_
    refine s_calli (As := [.long (q.toInt64), .long 0, .long 5]) (rest := []) ⟨hx, hb, hml, hown, hts⟩ (ctX10_in l _ _ _) (cwS 3 hts gX10_suit_X10_in rfl rfl rfl (by decide +kernel) ⟨Nat.le_of_ble_eq_true rfl, Nat.le_of_ble_eq_true rfl⟩) hP hS rfl hl.1 rfl (Nat.le_of_ble_eq_true rfl) dX10_suit_13 ⟨Nat.zero_le _, Nat.zero_le _⟩ (fun H locs hP hS => ?_)
    refine lv_if_eq (tgt := 76) hx hb dX10_suit_16 (by decide) (fun c_16 => ?_) (fun c_16 => ?_)
    · rw [mIn_R] at c_16
      have b16 : inR 0 5 q = false := (zI_eq _).mp c_16
      refine lv_bipush (v := (-2)) hx hb dX10_suit_76 (by decide) ?_
      exact m_reti hx hb hr hlocks hAe hK hP hD hS rfl dX10_suit_78 (by rw [spSuit, if_neg (by simp only [okSuit, hsk]; simp [b4, b16])])
    · rw [mIn_R] at c_16
      have b16 : inR 0 5 q = true := (zI_ne _).mp c_16
      obtain ⟨qq, hq6, etq⟩ := (inR_k 6 (hi := 5) rfl (by omega)).mp b16
      have hsq : sI q = qq := by rw [etq]; exact nI_clamp (by omega)
      refine lv_aload_n hx hb dX10_suit_19 rfl (lv_at hl 0 rfl) ?_
      refine lv_iload_n hx hb dX10_suit_20 rfl (lv_at hl 3 rfl) ?_
      refine m_callip (As := [.int ac]) (rest := []) ⟨hx, hb, hml, hown, hts⟩ (ctX10_isCitizen l D y h a v ac n hn hn1) (cwV 1 hts gX10_suit_X10_isCitizen rfl rfl rfl (by decide +kernel) ⟨Nat.le_of_ble_eq_true rfl, Nat.le_of_ble_eq_true rfl⟩) hK hP hD hS hA rfl hl.1 rfl (Nat.le_of_ble_eq_true rfl) dX10_suit_21 ⟨Nat.zero_le _, Nat.zero_le _⟩ (fun H locs hP hD hS => ?_)
      refine lv_if_eq (tgt := 76) hx hb dX10_suit_24 (by decide) (fun c_24 => ?_) (fun c_24 => ?_)
      · have b24 : isC n ac = false := (zI_eq _).mp c_24
        refine lv_bipush (v := (-2)) hx hb dX10_suit_76 (by decide) ?_
        exact m_reti hx hb hr hlocks hAe hK hP hD hS rfl dX10_suit_78 (by rw [spSuit, if_neg (by simp only [okSuit, hsk]; simp [b4, b16, b24])])
      · have b24 : isC n ac = true := (zI_ne _).mp c_24
        refine lv_aload_n hx hb dX10_suit_27 rfl (lv_at hl 0 rfl) ?_
        refine lv_iload hx hb dX10_suit_28 (lv_at hl 4 rfl) ?_
        refine m_callip (As := [.int bc]) (rest := []) ⟨hx, hb, hml, hown, hts⟩ (ctX10_isCitizen l D y h a v bc n hn hn1) (cwV 1 hts gX10_suit_X10_isCitizen rfl rfl rfl (by decide +kernel) ⟨Nat.le_of_ble_eq_true rfl, Nat.le_of_ble_eq_true rfl⟩) hK hP hD hS hA rfl hl.1 rfl (Nat.le_of_ble_eq_true rfl) dX10_suit_30 ⟨Nat.zero_le _, Nat.zero_le _⟩ (fun H locs hP hD hS => ?_)
        refine lv_if_eq (tgt := 76) hx hb dX10_suit_33 (by decide) (fun c_33 => ?_) (fun c_33 => ?_)
        · have b33 : isC n bc = false := (zI_eq _).mp c_33
          refine lv_bipush (v := (-2)) hx hb dX10_suit_76 (by decide) ?_
          exact m_reti hx hb hr hlocks hAe hK hP hD hS rfl dX10_suit_78 (by rw [spSuit, if_neg (by simp only [okSuit, hsk]; simp [b4, b16, b24, b33])])
        · have b33 : isC n bc = true := (zI_ne _).mp c_33
          refine lv_iload_n hx hb dX10_suit_36 rfl (lv_at hl 3 rfl) ?_
          refine lv_iload hx hb dX10_suit_37 (lv_at hl 4 rfl) ?_
          refine lv_icmp_eq (tgt := 76) hx hb dX10_suit_39 (by decide) (fun c_39 => ?_) (fun c_39 => ?_)
          · refine lv_bipush (v := (-2)) hx hb dX10_suit_76 (by decide) ?_
            exact m_reti hx hb hr hlocks hAe hK hP hD hS rfl dX10_suit_78 (by rw [spSuit, if_neg (by simp only [okSuit, hsk]; simp [b4, b16, b24, b33, c_39])])
          · refine lv_iload hx hb dX10_suit_42 (lv_at hl 5 rfl) ?_
            refine lv_i2l hx hb dX10_suit_44 rfl ?_
            refine lv_lconst (v := 0) hx hb dX10_suit_45 (by decide) ?_
            refine lv_ldc2 (v := 1000000) hx hb hown (hts (.constantLong RX10 281 (1000000)) (by decide +kernel)) dX10_suit_46 ?_
            refine s_calli (As := [.long (s9.toInt64), .long 0, .long 1000000]) (rest := []) ⟨hx, hb, hml, hown, hts⟩ (ctX10_in l _ _ _) (cwS 3 hts gX10_suit_X10_in rfl rfl rfl (by decide +kernel) ⟨Nat.le_of_ble_eq_true rfl, Nat.le_of_ble_eq_true rfl⟩) hP hS rfl hl.1 rfl (Nat.le_of_ble_eq_true rfl) dX10_suit_49 ⟨Nat.zero_le _, Nat.zero_le _⟩ (fun H locs hP hS => ?_)
            refine lv_if_eq (tgt := 76) hx hb dX10_suit_52 (by decide) (fun c_52 => ?_) (fun c_52 => ?_)
            · rw [mIn_R] at c_52
              have b52 : inR 0 1000000 s9 = false := (zI_eq _).mp c_52
              refine lv_bipush (v := (-2)) hx hb dX10_suit_76 (by decide) ?_
              exact m_reti hx hb hr hlocks hAe hK hP hD hS rfl dX10_suit_78 (by rw [spSuit, if_neg (by simp only [okSuit, hsk]; simp [b4, b16, b24, b33, c_39, b52])])
            · rw [mIn_R] at c_52
              have b52 : inR 0 1000000 s9 = true := (zI_ne _).mp c_52
              refine lv_aload_n hx hb dX10_suit_55 rfl (lv_at hl 0 rfl) ?_
              refine lv_iload_n hx hb dX10_suit_56 rfl (lv_at hl 1 rfl) ?_
              refine lv_iload_n hx hb dX10_suit_57 rfl (lv_at hl 3 rfl) ?_
              refine m_callip (As := [.int k, .int ac]) (rest := []) ⟨hx, hb, hml, hown, hts⟩ (etk ▸ ctX10_seatOf l D y h a v kk ac (ns kk) hk5 hsn hn25) (cwV 2 hts gX10_suit_X10_seatOf rfl rfl rfl (by decide +kernel) ⟨Nat.le_of_ble_eq_true rfl, Nat.le_of_ble_eq_true rfl⟩) hK hP hD hS hA rfl hl.1 rfl (Nat.le_of_ble_eq_true rfl) dX10_suit_58 ⟨Nat.zero_le _, Nat.zero_le _⟩ (fun H locs hP hD hS => ?_)
              refine lv_iconst (v := (-1)) hx hb dX10_suit_61 (by decide) ?_
              refine lv_icmp_ne (tgt := 76) hx hb dX10_suit_62 (by decide) (fun c_62 => ?_) (fun c_62 => ?_)
              · have b62 : dSeat ns v kk ac < ns kk := Decidable.not_not.mp (fun q9 => c_62 ((fInt_m1 (by omega)).mpr q9))
                refine lv_bipush (v := (-2)) hx hb dX10_suit_76 (by decide) ?_
                exact m_reti hx hb hr hlocks hAe hK hP hD hS rfl dX10_suit_78 (by rw [spSuit, if_neg (by simp only [okSuit, hsk]; simp [b4, b16, b24, b33, c_39, b52, b62])])
              · have b62 : ¬ dSeat ns v kk ac < ns kk := (fInt_m1 (by omega)).mp c_62
                refine lv_aload_n hx hb dX10_suit_65 rfl (lv_at hl 0 rfl) ?_
                refine lv_iload_n hx hb dX10_suit_66 rfl (lv_at hl 1 rfl) ?_
                refine lv_iload hx hb dX10_suit_67 (lv_at hl 4 rfl) ?_
                refine m_callip (As := [.int k, .int bc]) (rest := []) ⟨hx, hb, hml, hown, hts⟩ (etk ▸ ctX10_seatOf l D y h a v kk bc (ns kk) hk5 hsn hn25) (cwV 2 hts gX10_suit_X10_seatOf rfl rfl rfl (by decide +kernel) ⟨Nat.le_of_ble_eq_true rfl, Nat.le_of_ble_eq_true rfl⟩) hK hP hD hS hA rfl hl.1 rfl (Nat.le_of_ble_eq_true rfl) dX10_suit_69 ⟨Nat.zero_le _, Nat.zero_le _⟩ (fun H locs hP hD hS => ?_)
                refine lv_iconst (v := (-1)) hx hb dX10_suit_72 (by decide) ?_
                refine lv_icmp_eq (tgt := 79) hx hb dX10_suit_73 (by decide) (fun c_73 => ?_) (fun c_73 => ?_)
                · have b73 : ¬ dSeat ns v kk bc < ns kk := (fInt_m1 (by omega)).mp c_73
                  refine lv_aload_n hx hb dX10_suit_79 rfl (lv_at hl 0 rfl) ?_
                  refine mg_courtSize hx hb hts hin hown hK hP (by decide +kernel) dX10_suit_80 ?_
                  refine lv_iload_n hx hb dX10_suit_83 rfl (lv_at hl 1 rfl) ?_
                  refine ml_courtSize hx hb hK hP (hik) dX10_suit_84 ?_
                  refine lv_if_eq (tgt := 112) hx hb dX10_suit_85 (by decide) (fun c_85 => ?_) (fun c_85 => ?_)
                  · rw [hck] at c_85
                    refine lv_bipush (v := (-4)) hx hb dX10_suit_112 (by decide) ?_
                    exact m_reti hx hb hr hlocks hAe hK hP hD hS rfl dX10_suit_114 (by rw [spSuit, if_pos (by simp only [okSuit, hsk]; simp [b4, b16, b24, b33, c_39, b52, b62, b73]), hsk, if_pos (by simp [c_85])])
                  · rw [hck] at c_85
                    refine lv_aload_n hx hb dX10_suit_88 rfl (lv_at hl 0 rfl) ?_
                    refine mg_sits hx hb hts hin hown hK hP (by decide +kernel) dX10_suit_89 ?_
                    refine lv_iload_n hx hb dX10_suit_92 rfl (lv_at hl 1 rfl) ?_
                    refine ml_sits hx hb hK hP (hik) dX10_suit_93 ?_
                    refine lv_aload_n hx hb dX10_suit_94 rfl (lv_at hl 0 rfl) ?_
                    refine mg_courtSize hx hb hts hin hown hK hP (by decide +kernel) dX10_suit_95 ?_
                    refine lv_iload_n hx hb dX10_suit_98 rfl (lv_at hl 1 rfl) ?_
                    refine ml_courtSize hx hb hK hP (hik) dX10_suit_99 ?_
                    refine lv_icmp_lt (tgt := 112) hx hb dX10_suit_100 (by decide) (fun c_100 => ?_) (fun c_100 => ?_)
                    · rw [hck] at c_100
                      refine lv_bipush (v := (-4)) hx hb dX10_suit_112 (by decide) ?_
                      exact m_reti hx hb hr hlocks hAe hK hP hD hS rfl dX10_suit_114 (by rw [spSuit, if_pos (by simp only [okSuit, hsk]; simp [b4, b16, b24, b33, c_39, b52, b62, b73]), hsk, if_pos (by simp [c_85, c_100])])
                    · rw [hck] at c_100
                      refine lv_aload_n hx hb dX10_suit_103 rfl (lv_at hl 0 rfl) ?_
                      refine mg_isOpen hx hb hts hin hown hK hP (by decide +kernel) dX10_suit_104 ?_
                      refine lv_iload_n hx hb dX10_suit_107 rfl (lv_at hl 1 rfl) ?_
                      refine ml_isOpen hx hb hK hP (hik) dX10_suit_108 ?_
                      refine lv_if_eq (tgt := 115) hx hb dX10_suit_109 (by decide) (fun c_109 => ?_) (fun c_109 => ?_)
                      · rw [hck] at c_109
                        refine lv_aload_n hx hb dX10_suit_115 rfl (lv_at hl 0 rfl) ?_
                        refine mg_isOpen hx hb hts hin hown hK hP (by decide +kernel) dX10_suit_116 ?_
                        refine lv_iload_n hx hb dX10_suit_119 rfl (lv_at hl 1 rfl) ?_
                        refine lv_iconst (v := 1) hx hb dX10_suit_120 (by decide) ?_
                        refine ms_isOpen hx hb hK hP hD hS (hik) dX10_suit_121 (fun H locs hP hD hS => ?_)
                        rw [hck, nar1] at hP hD
                        refine lv_aload_n hx hb dX10_suit_122 rfl (lv_at hl 0 rfl) ?_
                        refine mg_hasSuit hx hb hts hin hown hK hP (by decide +kernel) dX10_suit_123 ?_
                        refine lv_iload_n hx hb dX10_suit_126 rfl (lv_at hl 1 rfl) ?_
                        refine lv_iconst (v := 1) hx hb dX10_suit_127 (by decide) ?_
                        refine ms_hasSuit hx hb hK hP hD hS (hik) dX10_suit_128 (fun H locs hP hD hS => ?_)
                        rw [hck, nar1] at hP hD
                        refine lv_aload_n hx hb dX10_suit_129 rfl (lv_at hl 0 rfl) ?_
                        refine mg_kind hx hb hts hin hown hK hP (by decide +kernel) dX10_suit_130 ?_
                        refine lv_iload_n hx hb dX10_suit_133 rfl (lv_at hl 1 rfl) ?_
                        refine lv_iload_n hx hb dX10_suit_134 rfl (lv_at hl 2 rfl) ?_
                        refine ms_kind hx hb hK hP hD hS (hik) dX10_suit_135 (fun H locs hP hD hS => ?_)
                        rw [hck] at hP hD
                        refine lv_aload_n hx hb dX10_suit_136 rfl (lv_at hl 0 rfl) ?_
                        refine mg_accuser hx hb hts hin hown hK hP (by decide +kernel) dX10_suit_137 ?_
                        refine lv_iload_n hx hb dX10_suit_140 rfl (lv_at hl 1 rfl) ?_
                        refine lv_iload_n hx hb dX10_suit_141 rfl (lv_at hl 3 rfl) ?_
                        refine ms_accuser hx hb hK hP hD hS (hik) dX10_suit_142 (fun H locs hP hD hS => ?_)
                        rw [hck] at hP hD
                        refine lv_aload_n hx hb dX10_suit_143 rfl (lv_at hl 0 rfl) ?_
                        refine mg_accused hx hb hts hin hown hK hP (by decide +kernel) dX10_suit_144 ?_
                        refine lv_iload_n hx hb dX10_suit_147 rfl (lv_at hl 1 rfl) ?_
                        refine lv_iload hx hb dX10_suit_148 (lv_at hl 4 rfl) ?_
                        refine ms_accused hx hb hK hP hD hS (hik) dX10_suit_150 (fun H locs hP hD hS => ?_)
                        rw [hck] at hP hD
                        refine lv_aload_n hx hb dX10_suit_151 rfl (lv_at hl 0 rfl) ?_
                        refine mg_sum hx hb hts hin hown hK hP (by decide +kernel) dX10_suit_152 ?_
                        refine lv_iload_n hx hb dX10_suit_155 rfl (lv_at hl 1 rfl) ?_
                        refine lv_iload hx hb dX10_suit_156 (lv_at hl 5 rfl) ?_
                        refine ms_sum hx hb hK hP hD hS (hik) dX10_suit_158 (fun H locs hP hD hS => ?_)
                        rw [hck] at hP hD
                        have hP : va_P D vwCl (mW h a y (suA v kk q ac bc s9)) H := hP
                        have hD : va_D A (mW h a y (suA v kk q ac bc s9)) := hD
                        refine lv_aload_n hx hb dX10_suit_159 rfl (lv_at hl 0 rfl) ?_
                        refine lv_aload_n hx hb dX10_suit_160 rfl (lv_at hl 0 rfl) ?_
                        refine mg_clock hx hb hts hin hown hK hP (by decide +kernel) dX10_suit_161 ?_
                        refine lv_bipush (v := 10) hx hb dX10_suit_164 (by decide) ?_
                        refine lv_iload_n hx hb dX10_suit_166 rfl (lv_at hl 2 rfl) ?_
                        refine lv_iadd hx hb dX10_suit_167 ?_
                        have hl10 : (10 : Int32) + q = nI (10 + qq) := by rw [etq, show (10 : Int32) = nI 10 from rfl, nI_add]
                        rw [hl10]
                        refine m_callip (As := [.int (v.1 14), .int (nI (10 + qq))]) (rest := []) ⟨hx, hb, hml, hown, hts⟩ (ctX10_lawOf l D y h a (suA v kk q ac bc s9) (v.1 14) (10 + qq) T (by omega) ht hT) (cwV 2 hts gX10_suit_X10_lawOf rfl rfl rfl (by decide +kernel) ⟨Nat.le_of_ble_eq_true rfl, Nat.le_of_ble_eq_true rfl⟩) hK hP hD hS hA rfl hl.1 rfl (Nat.le_of_ble_eq_true rfl) dX10_suit_168 ⟨Nat.zero_le _, Nat.zero_le _⟩ (fun H locs hP hD hS => ?_)
                        refine lv_topi (fun x6 ex6 => ?_)
                        refine lv_istore (lv' := [(6, .int x6), (0, .ref h), (1, .int k), (2, .int q), (3, .int ac), (4, .int bc), (5, .int s9)]) hx hb dX10_suit_171 hl (by decide) rfl (fun ls hl => ?_)
                        have j_212 : ∀ z7 : Int32, z7 = suMin T v q s9 → ∀ (H : Heap) (locs : List Loc), va_P D vwCl (mW h a y (suA v kk q ac bc s9)) H → va_D A (mW h a y (suA v kk q ac bc s9)) → va_S A s.heap H locs → W p l e (headSpec wsX10_suit ({ frames := 2, cells := 0, slots := 0, locals := 46 })).room s m ([.ref h, .int k, .int q, .int ac, .int bc, .int s9] : List Value).toArray below meth c H locs 0 0 (MQ below (va_Qi (fun r v' => (r, v') = spSuit n T ns v k q ac bc s9) (mEnd D y h a s.heap.size) A) ([.ref h, .int k, .int q, .int ac, .int bc, .int s9] : List Value).toArray s 0 0 A) (F0 m 212 ls (.int z7 :: [])) := by
                          intro z7 hz7 H locs hP hD hS
                          have hi20 : (2 : Int32) * k = nI (2 * kk + 0) := by rw [etk, show (2 : Int32) = nI 2 from rfl, pk_mul]; rfl
                          have hi21 : (2 : Int32) * k + 1 = nI (2 * kk + 1) := by rw [etk]; exact ix2 kk 1
                          have hc20 : (nI (2 * kk + 0)).toNatClampNeg = 2 * kk + 0 := nI_clamp (by omega)
                          have hc21 : (nI (2 * kk + 1)).toNatClampNeg = 2 * kk + 1 := nI_clamp (by omega)
                          refine lv_istore (lv' := [(7, .int z7), (6, .int x6), (0, .ref h), (1, .int k), (2, .int q), (3, .int ac), (4, .int bc), (5, .int s9)]) hx hb dX10_suit_212 hl (by decide) rfl (fun ls hl => ?_)
                          refine lv_aload_n hx hb dX10_suit_214 rfl (lv_at hl 2 rfl) ?_
                          refine mg_water hx hb hts hin hown hK hP (by decide +kernel) dX10_suit_215 ?_
                          refine lv_iconst (v := 2) hx hb dX10_suit_218 (by decide) ?_
                          refine lv_iload_n hx hb dX10_suit_219 rfl (lv_at hl 3 rfl) ?_
                          refine lv_imul hx hb dX10_suit_220 ?_
                          refine lv_iload hx hb dX10_suit_221 (lv_at hl 0 rfl) ?_
                          rw [hi20]
                          refine ms_water hx hb hK hP hD hS (vp_in_nI (by omega) (by omega)) dX10_suit_223 (fun H locs hP hD hS => ?_)
                          rw [hc20] at hP hD
                          refine lv_aload_n hx hb dX10_suit_224 rfl (lv_at hl 2 rfl) ?_
                          refine mg_water hx hb hts hin hown hK hP (by decide +kernel) dX10_suit_225 ?_
                          refine lv_iconst (v := 2) hx hb dX10_suit_228 (by decide) ?_
                          refine lv_iload_n hx hb dX10_suit_229 rfl (lv_at hl 3 rfl) ?_
                          refine lv_imul hx hb dX10_suit_230 ?_
                          refine lv_iconst (v := 1) hx hb dX10_suit_231 (by decide) ?_
                          refine lv_iadd hx hb dX10_suit_232 ?_
                          refine lv_iload hx hb dX10_suit_233 (lv_at hl 0 rfl) ?_
                          rw [hi21]
                          refine ms_water hx hb hK hP hD hS (vp_in_nI (by omega) (by omega)) dX10_suit_235 (fun H locs hP hD hS => ?_)
                          rw [hc21] at hP hD
                          refine lv_aload_n hx hb dX10_suit_236 rfl (lv_at hl 2 rfl) ?_
                          refine mg_hasBegun hx hb hts hin hown hK hP (by decide +kernel) dX10_suit_237 ?_
                          refine lv_iload_n hx hb dX10_suit_240 rfl (lv_at hl 3 rfl) ?_
                          refine lv_iconst (v := 0) hx hb dX10_suit_241 (by decide) ?_
                          refine ms_hasBegun hx hb hK hP hD hS (hik) dX10_suit_242 (fun H locs hP hD hS => ?_)
                          rw [hck, nar0] at hP hD
                          refine lv_aload_n hx hb dX10_suit_243 rfl (lv_at hl 2 rfl) ?_
                          refine mg_isHeard hx hb hts hin hown hK hP (by decide +kernel) dX10_suit_244 ?_
                          refine lv_iload_n hx hb dX10_suit_247 rfl (lv_at hl 3 rfl) ?_
                          refine lv_iconst (v := 0) hx hb dX10_suit_248 (by decide) ?_
                          refine ms_isHeard hx hb hK hP hD hS (hik) dX10_suit_249 (fun H locs hP hD hS => ?_)
                          rw [hck, nar0] at hP hD
                          refine lv_aload_n hx hb dX10_suit_250 rfl (lv_at hl 2 rfl) ?_
                          refine mg_verdict hx hb hts hin hown hK hP (by decide +kernel) dX10_suit_251 ?_
                          refine lv_iload_n hx hb dX10_suit_254 rfl (lv_at hl 3 rfl) ?_
                          refine lv_iconst (v := (-1)) hx hb dX10_suit_255 (by decide) ?_
                          refine ms_verdict hx hb hK hP hD hS (hik) dX10_suit_256 (fun H locs hP hD hS => ?_)
                          rw [hck] at hP hD
                          refine lv_aload_n hx hb dX10_suit_257 rfl (lv_at hl 2 rfl) ?_
                          refine mg_debtor hx hb hts hin hown hK hP (by decide +kernel) dX10_suit_258 ?_
                          refine lv_iload_n hx hb dX10_suit_261 rfl (lv_at hl 3 rfl) ?_
                          refine lv_iconst (v := (-1)) hx hb dX10_suit_262 (by decide) ?_
                          refine ms_debtor hx hb hK hP hD hS (hik) dX10_suit_263 (fun H locs hP hD hS => ?_)
                          rw [hck] at hP hD
                          refine lv_aload_n hx hb dX10_suit_264 rfl (lv_at hl 2 rfl) ?_
                          refine mg_debt hx hb hts hin hown hK hP (by decide +kernel) dX10_suit_265 ?_
                          refine lv_iload_n hx hb dX10_suit_268 rfl (lv_at hl 3 rfl) ?_
                          refine lv_iconst (v := (-1)) hx hb dX10_suit_269 (by decide) ?_
                          refine ms_debt hx hb hK hP hD hS (hik) dX10_suit_270 (fun H locs hP hD hS => ?_)
                          rw [hck] at hP hD
                          refine lv_bipush (v := 25) hx hb dX10_suit_271 (by decide) ?_
                          refine lv_iload_n hx hb dX10_suit_273 rfl (lv_at hl 3 rfl) ?_
                          refine lv_imul hx hb dX10_suit_274 ?_
                          refine lv_topi (fun x8_1 ex8_1 => ?_)
                          refine lv_istore (lv' := [(8, .int x8_1), (7, .int z7), (6, .int x6), (0, .ref h), (1, .int k), (2, .int q), (3, .int ac), (4, .int bc), (5, .int s9)]) hx hb dX10_suit_275 hl (by decide) rfl (fun ls hl => ?_)
                          have lp_277 : ∀ (n_277 : Nat) (j : Nat) (u : mS) (x8 : Int32), (j ≤ 25) → (26 ≤ j + n_277) → (x8 = nI (25 * kk + j)) → (u = suD (suC (suB (suA v kk q ac bc s9) kk z7) kk) kk j) → ∀ (H : Heap) (locs : List Loc), va_P D vwCl (mW h a y u) H → va_D A (mW h a y u) → va_S A s.heap H locs → ∀ (ls : Array Slot), lv_has ls 9 [(0, .ref h), (1, .int k), (7, .int z7), (8, .int x8)] → W p l e (headSpec wsX10_suit ({ frames := 2, cells := 0, slots := 0, locals := 46 })).room s m ([.ref h, .int k, .int q, .int ac, .int bc, .int s9] : List Value).toArray below meth c H locs 0 0 (MQ below (va_Qi (fun r v' => (r, v') = spSuit n T ns v k q ac bc s9) (mEnd D y h a s.heap.size) A) ([.ref h, .int k, .int q, .int ac, .int bc, .int s9] : List Value).toArray s 0 0 A) (F0 m 277 ls []) := by
                            intro n_277
                            induction n_277 with
                            | zero =>
                              intro j u x8 hj0 hjf ex8 hu
                              exact absurd hjf (by omega)
                            | succ n_277 ih_277 =>
                              intro j u x8 hj0 hjf ex8 hu H locs hP hD hS ls hl
                              refine lv_iload hx hb dX10_suit_277 (lv_at hl 3 rfl) ?_
                              refine lv_bipush (v := 25) hx hb dX10_suit_279 (by decide) ?_
                              refine lv_iload_n hx hb dX10_suit_281 rfl (lv_at hl 1 rfl) ?_
                              refine lv_imul hx hb dX10_suit_282 ?_
                              refine lv_bipush (v := 25) hx hb dX10_suit_283 (by decide) ?_
                              refine lv_iadd hx hb dX10_suit_285 ?_
                              refine lv_icmp_ge (tgt := 311) hx hb dX10_suit_286 (by decide) (fun c_286 => ?_) (fun c_286 => ?_)
                              · have hj : j = 25 := by rw [show (25 : Int32) * k + 25 = nI (25 * kk + 25) by rw [etk]; exact ix25 kk 25, ex8] at c_286; have := (nI_leI (by omega) (by omega)).mp c_286; omega
                                refine lv_iload hx hb dX10_suit_311 (lv_at hl 2 rfl) ?_
                                exact m_reti hx hb hr hlocks hAe hK hP hD hS rfl dX10_suit_313 (by rw [spSuit, if_pos (by simp only [okSuit, hsk]; simp [b4, b16, b24, b33, c_39, b52, b62, b73]), hsk, if_neg (by simp [c_85, Int32.not_lt.mp c_100, c_109]), hu, hj, hz7])
                              · have hj : j < 25 := by rw [show (25 : Int32) * k + 25 = nI (25 * kk + 25) by rw [etk]; exact ix25 kk 25, ex8] at c_286; exact Nat.not_le.mp (fun q9 => c_286 (nI_le (by omega) (by omega)))
                                have hc8 : x8.toNatClampNeg = 25 * kk + j := by rw [ex8]; exact nI_clamp (by omega)
                                have hi8 : vp_in x8 125 := by rw [ex8]; exact vp_in_nI (by omega) (by omega)
                                refine lv_aload_n hx hb dX10_suit_289 rfl (lv_at hl 0 rfl) ?_
                                refine mg_discs hx hb hts hin hown hK hP (by decide +kernel) dX10_suit_290 ?_
                                refine lv_iload hx hb dX10_suit_293 (lv_at hl 3 rfl) ?_
                                refine lv_iconst (v := (-1)) hx hb dX10_suit_295 (by decide) ?_
                                refine ms_discs hx hb hK hP hD hS (hi8) dX10_suit_296 (fun H locs hP hD hS => ?_)
                                refine lv_aload_n hx hb dX10_suit_297 rfl (lv_at hl 0 rfl) ?_
                                refine mg_isStruck hx hb hts hin hown hK hP (by decide +kernel) dX10_suit_298 ?_
                                refine lv_iload hx hb dX10_suit_301 (lv_at hl 3 rfl) ?_
                                refine lv_iconst (v := 0) hx hb dX10_suit_303 (by decide) ?_
                                refine ms_isStruck hx hb hK hP hD hS (hi8) dX10_suit_304 (fun H locs hP hD hS => ?_)
                                obtain ⟨x8_2, ex8_2⟩ : ∃ z : Int32, z = x8 + 1 := ⟨_, rfl⟩
                                refine lv_iinc (v := x8_2) (lv' := [(8, .int x8_2), (0, .ref h), (1, .int k), (7, .int z7)]) hx hb dX10_suit_305 hl (k := 3) rfl (by rw [ex8_2]; rfl) (by decide) rfl (fun ls hl => ?_)
                                refine lv_goto (tgt := 277) hx hb dX10_suit_308 (by decide) ?_
                                exact ih_277 (j + 1) _ _ (by omega) (by omega) (by rw [ex8_2, ex8]; exact nI_1 _) (by rw [hc8, nar0, hu, suD]) _ _ hP hD hS _ (lv_sub hl [1, 2, 3, 0] rfl)
                          exact lp_277 26 0 _ _ (Nat.zero_le _) (by omega) (by rw [ex8_1, etk, show (25 : Int32) = nI 25 from rfl, pk_mul]; rfl) rfl _ _ hP hD hS _ (lv_sub hl [3, 4, 1, 0] rfl)
                        refine lv_iload hx hb dX10_suit_173 (lv_at hl 0 rfl) ?_
                        refine lv_iconst (v := (-1)) hx hb dX10_suit_175 (by decide) ?_
                        refine lv_icmp_eq (tgt := 201) hx hb dX10_suit_176 (by decide) (fun c_176 => ?_) (fun c_176 => ?_)
                        · refine lv_aload_n hx hb dX10_suit_201 rfl (lv_at hl 1 rfl) ?_
                          refine lv_aload_n hx hb dX10_suit_202 rfl (lv_at hl 1 rfl) ?_
                          refine mg_clock hx hb hts hin hown hK hP (by decide +kernel) dX10_suit_203 ?_
                          refine lv_iconst (v := 4) hx hb dX10_suit_206 (by decide) ?_
                          refine lv_iload_n hx hb dX10_suit_207 rfl (lv_at hl 3 rfl) ?_
                          refine lv_iadd hx hb dX10_suit_208 ?_
                          have hl4 : (4 : Int32) + q = nI (4 + qq) := by rw [etq, show (4 : Int32) = nI 4 from rfl, nI_add]
                          rw [hl4]
                          refine m_callip (As := [.int (v.1 14), .int (nI (4 + qq))]) (rest := []) ⟨hx, hb, hml, hown, hts⟩ (ctX10_lawOf l D y h a (suA v kk q ac bc s9) (v.1 14) (4 + qq) T (by omega) ht hT) (cwV 2 hts gX10_suit_X10_lawOf rfl rfl rfl (by decide +kernel) ⟨Nat.le_of_ble_eq_true rfl, Nat.le_of_ble_eq_true rfl⟩) hK hP hD hS hA rfl hl.1 rfl (Nat.le_of_ble_eq_true rfl) dX10_suit_209 ⟨Nat.zero_le _, Nat.zero_le _⟩ (fun H locs hP hD hS => ?_)
                          exact j_212 _ (by rw [mLaw_c (u := suA v kk q ac bc s9) (v := v) rfl rfl, suMin, hsq, if_neg (by rw [ex6, mLaw_c (u := suA v kk q ac bc s9) (v := v) rfl rfl] at c_176; exact fun q9 => q9.1 c_176)]) _ _ hP hD hS
                        · refine lv_iload hx hb dX10_suit_179 (lv_at hl 6 rfl) ?_
                          refine lv_iload hx hb dX10_suit_181 (lv_at hl 0 rfl) ?_
                          refine lv_icmp_le (tgt := 201) hx hb dX10_suit_183 (by decide) (fun c_183 => ?_) (fun c_183 => ?_)
                          · refine lv_aload_n hx hb dX10_suit_201 rfl (lv_at hl 1 rfl) ?_
                            refine lv_aload_n hx hb dX10_suit_202 rfl (lv_at hl 1 rfl) ?_
                            refine mg_clock hx hb hts hin hown hK hP (by decide +kernel) dX10_suit_203 ?_
                            refine lv_iconst (v := 4) hx hb dX10_suit_206 (by decide) ?_
                            refine lv_iload_n hx hb dX10_suit_207 rfl (lv_at hl 3 rfl) ?_
                            refine lv_iadd hx hb dX10_suit_208 ?_
                            have hl4 : (4 : Int32) + q = nI (4 + qq) := by rw [etq, show (4 : Int32) = nI 4 from rfl, nI_add]
                            rw [hl4]
                            refine m_callip (As := [.int (v.1 14), .int (nI (4 + qq))]) (rest := []) ⟨hx, hb, hml, hown, hts⟩ (ctX10_lawOf l D y h a (suA v kk q ac bc s9) (v.1 14) (4 + qq) T (by omega) ht hT) (cwV 2 hts gX10_suit_X10_lawOf rfl rfl rfl (by decide +kernel) ⟨Nat.le_of_ble_eq_true rfl, Nat.le_of_ble_eq_true rfl⟩) hK hP hD hS hA rfl hl.1 rfl (Nat.le_of_ble_eq_true rfl) dX10_suit_209 ⟨Nat.zero_le _, Nat.zero_le _⟩ (fun H locs hP hD hS => ?_)
                            exact j_212 _ (by rw [mLaw_c (u := suA v kk q ac bc s9) (v := v) rfl rfl, suMin, hsq, if_neg (by rw [ex6, mLaw_c (u := suA v kk q ac bc s9) (v := v) rfl rfl] at c_183; exact fun q9 => q9.2 c_183)]) _ _ hP hD hS
                          · refine lv_aload_n hx hb dX10_suit_186 rfl (lv_at hl 1 rfl) ?_
                            refine lv_aload_n hx hb dX10_suit_187 rfl (lv_at hl 1 rfl) ?_
                            refine mg_clock hx hb hts hin hown hK hP (by decide +kernel) dX10_suit_188 ?_
                            refine lv_bipush (v := 16) hx hb dX10_suit_191 (by decide) ?_
                            refine lv_iload_n hx hb dX10_suit_193 rfl (lv_at hl 3 rfl) ?_
                            refine lv_iadd hx hb dX10_suit_194 ?_
                            have hl16 : (16 : Int32) + q = nI (16 + qq) := by rw [etq, show (16 : Int32) = nI 16 from rfl, nI_add]
                            rw [hl16]
                            refine m_callip (As := [.int (v.1 14), .int (nI (16 + qq))]) (rest := []) ⟨hx, hb, hml, hown, hts⟩ (ctX10_lawOf l D y h a (suA v kk q ac bc s9) (v.1 14) (16 + qq) T (by omega) ht hT) (cwV 2 hts gX10_suit_X10_lawOf rfl rfl rfl (by decide +kernel) ⟨Nat.le_of_ble_eq_true rfl, Nat.le_of_ble_eq_true rfl⟩) hK hP hD hS hA rfl hl.1 rfl (Nat.le_of_ble_eq_true rfl) dX10_suit_195 ⟨Nat.zero_le _, Nat.zero_le _⟩ (fun H locs hP hD hS => ?_)
                            refine lv_goto (tgt := 212) hx hb dX10_suit_198 (by decide) ?_
                            exact j_212 _ (by rw [mLaw_c (u := suA v kk q ac bc s9) (v := v) rfl rfl, suMin, hsq, if_pos (by rw [ex6, mLaw_c (u := suA v kk q ac bc s9) (v := v) rfl rfl] at c_176 c_183; exact ⟨c_176, c_183⟩)]) _ _ hP hD hS
                      · rw [hck] at c_109
                        refine lv_bipush (v := (-4)) hx hb dX10_suit_112 (by decide) ?_
                        exact m_reti hx hb hr hlocks hAe hK hP hD hS rfl dX10_suit_114 (by rw [spSuit, if_pos (by simp only [okSuit, hsk]; simp [b4, b16, b24, b33, c_39, b52, b62, b73]), hsk, if_pos (by simp [c_85, c_100, c_109])])
                · have b73 : dSeat ns v kk bc < ns kk := Decidable.not_not.mp (fun q9 => c_73 ((fInt_m1 (by omega)).mpr q9))
                  refine lv_bipush (v := (-2)) hx hb dX10_suit_76 (by decide) ?_
                  exact m_reti hx hb hr hlocks hAe hK hP hD hS rfl dX10_suit_78 (by rw [spSuit, if_neg (by simp only [okSuit, hsk]; simp [b4, b16, b24, b33, c_39, b52, b62, b73])])
