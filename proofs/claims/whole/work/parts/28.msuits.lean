/-! the reference: citizen, lot, speak, witness, disc, count -/
def spCitizen (n : Nat) (v : mS) (t w b : Int32) : Int32 × mS := if isT t && (inR 0 4 w && inR (-40000) (v.1 14 - 1).toInt b) then (if n = 150 then (-3, v) else (nI n, miU (mrU (mrU (mrU (mrU (mrU v 16 n t) 17 n w) 18 n b) 22 n (-1)) 24 n (-1)) 15 (nI (n + 1)))) else (-2, v)
set_option maxHeartbeats 4000000 in
set_option maxRecDepth 100000 in
/-- citizen(t, w, b) -/
theorem ctX10_citizen (l : Launch) (D : va_G) (y : Nat → ClassId) (h : Nat) (a : Nat → Nat) (v : mS) (t w b : Int32) (n : Nat) (hn : v.1 15 = nI n) (hn1 : n ≤ 150) : mMi l yX10_citizen wsX10_citizen ({ frames := 1, cells := 0, slots := 0, locals := 25 }) D y h a v [.ref h, .int t, .int w, .int b] (fun r v' => (r, v') = spCitizen n v t w b) := by
  refine mMi_of (cc := cX10_citizen) (maxL := 4) (ret := (some .int)) rfl rfl (Nat.le_of_ble_eq_true rfl) ?_
  intro p e s m below meth c A ls hat hAe hl
  obtain ⟨hx, hb, hr, hml, hts, hown, hlocks, hK, hP, hD, hA⟩ := hat
  have hin : ∀ w ∈ wsX100, w ∈ wsX10_citizen := fun _ h9 => List.mem_cons_of_mem _ (List.mem_append_right _ h9)
  have hl : lv_has ls 4 [(0, .ref h), (1, .int t), (2, .int w), (3, .int b)] := hl
  have hS : va_S A s.heap s.heap [] := va_S.rf
  refine lv_iload_n hx hb dX10_citizen_0 rfl (lv_at hl 1 rfl) ?_
  refine lv_i2l hx hb dX10_citizen_1 rfl ?_
  refine lv_lconst (v := 0) hx hb dX10_citizen_2 (by decide) ?_
  refine lv_ldc2 (v := 9) hx hb hown (hts (.constantLong RX10 234 (9)) (by decide +kernel)) dX10_citizen_3 ?_
  refine s_calli (As := [.long (t.toInt64), .long 0, .long 9]) (rest := []) ⟨hx, hb, hml, hown, hts⟩ (ctX10_in l _ _ _) (cwS 3 hts gX10_citizen_X10_in rfl rfl rfl (by decide +kernel) ⟨Nat.le_of_ble_eq_true rfl, Nat.le_of_ble_eq_true rfl⟩) hP hS rfl hl.1 rfl (Nat.le_of_ble_eq_true rfl) dX10_citizen_6 ⟨Nat.zero_le _, Nat.zero_le _⟩ (fun H locs hP hS => ?_)
  refine lv_if_eq (tgt := 42) hx hb dX10_citizen_9 (by decide) (fun c_9 => ?_) (fun c_9 => ?_)
  · rw [mIn_R] at c_9
    have b9 : isT t = false := (zI_eq _).mp c_9
    refine lv_bipush (v := (-2)) hx hb dX10_citizen_42 (by decide) ?_
    exact m_reti hx hb hr hlocks hAe hK hP hD hS rfl dX10_citizen_44 (by rw [spCitizen, if_neg (by simp only [b9, Bool.false_and, Bool.and_false]; decide)])
  · rw [mIn_R] at c_9
    have b9 : isT t = true := (zI_ne _).mp c_9
    refine lv_iload_n hx hb dX10_citizen_12 rfl (lv_at hl 2 rfl) ?_
    refine lv_i2l hx hb dX10_citizen_13 rfl ?_
    refine lv_lconst (v := 0) hx hb dX10_citizen_14 (by decide) ?_
    refine lv_ldc2 (v := 4) hx hb hown (hts (.constantLong RX10 236 (4)) (by decide +kernel)) dX10_citizen_15 ?_
    refine s_calli (As := [.long (w.toInt64), .long 0, .long 4]) (rest := []) ⟨hx, hb, hml, hown, hts⟩ (ctX10_in l _ _ _) (cwS 3 hts gX10_citizen_X10_in rfl rfl rfl (by decide +kernel) ⟨Nat.le_of_ble_eq_true rfl, Nat.le_of_ble_eq_true rfl⟩) hP hS rfl hl.1 rfl (Nat.le_of_ble_eq_true rfl) dX10_citizen_18 ⟨Nat.zero_le _, Nat.zero_le _⟩ (fun H locs hP hS => ?_)
    refine lv_if_eq (tgt := 42) hx hb dX10_citizen_21 (by decide) (fun c_21 => ?_) (fun c_21 => ?_)
    · rw [mIn_R] at c_21
      have b21 : inR 0 4 w = false := (zI_eq _).mp c_21
      refine lv_bipush (v := (-2)) hx hb dX10_citizen_42 (by decide) ?_
      exact m_reti hx hb hr hlocks hAe hK hP hD hS rfl dX10_citizen_44 (by rw [spCitizen, if_neg (by simp only [b9, b21, Bool.false_and, Bool.and_false]; decide)])
    · rw [mIn_R] at c_21
      have b21 : inR 0 4 w = true := (zI_ne _).mp c_21
      refine lv_iload_n hx hb dX10_citizen_24 rfl (lv_at hl 3 rfl) ?_
      refine lv_i2l hx hb dX10_citizen_25 rfl ?_
      refine lv_ldc2 (v := (-40000)) hx hb hown (hts (.constantLong RX10 238 (-40000)) (by decide +kernel)) dX10_citizen_26 ?_
      refine lv_aload_n hx hb dX10_citizen_29 rfl (lv_at hl 0 rfl) ?_
      refine mg_clock hx hb hts hin hown hK hP (by decide +kernel) dX10_citizen_30 ?_
      refine lv_iconst (v := 1) hx hb dX10_citizen_33 (by decide) ?_
      refine lv_isub hx hb dX10_citizen_34 ?_
      refine lv_i2l hx hb dX10_citizen_35 rfl ?_
      refine s_calli (As := [.long (b.toInt64), .long (-40000), .long _]) (rest := []) ⟨hx, hb, hml, hown, hts⟩ (ctX10_in l _ _ _) (cwS 3 hts gX10_citizen_X10_in rfl rfl rfl (by decide +kernel) ⟨Nat.le_of_ble_eq_true rfl, Nat.le_of_ble_eq_true rfl⟩) hP hS rfl hl.1 rfl (Nat.le_of_ble_eq_true rfl) dX10_citizen_36 ⟨Nat.zero_le _, Nat.zero_le _⟩ (fun H locs hP hS => ?_)
      refine lv_if_ne (tgt := 45) hx hb dX10_citizen_39 (by decide) (fun c_39 => ?_) (fun c_39 => ?_)
      · rw [mIn_R, Int32.toInt_toInt64] at c_39
        have b39 : inR (-40000) (v.1 14 - 1).toInt b = true := (zI_ne _).mp c_39
        refine lv_aload_n hx hb dX10_citizen_45 rfl (lv_at hl 0 rfl) ?_
        refine mg_citizens hx hb hts hin hown hK hP (by decide +kernel) dX10_citizen_46 ?_
        refine lv_sipush (v := 150) hx hb dX10_citizen_49 (by decide) ?_
        refine lv_icmp_ne (tgt := 58) hx hb dX10_citizen_52 (by decide) (fun c_52 => ?_) (fun c_52 => ?_)
        · have hn5 : n ≠ 150 := fun q => c_52 (by rw [hn, q]; rfl)
          have hcn : (v.1 15).toNatClampNeg = n := by rw [hn]; exact nI_clamp (by omega)
          have hin9 : vp_in (v.1 15) 150 := by rw [hn]; exact vp_in_nI (by omega) (by omega)
          refine lv_aload_n hx hb dX10_citizen_58 rfl (lv_at hl 0 rfl) ?_
          refine mg_tribe hx hb hts hin hown hK hP (by decide +kernel) dX10_citizen_59 ?_
          refine lv_aload_n hx hb dX10_citizen_62 rfl (lv_at hl 0 rfl) ?_
          refine mg_citizens hx hb hts hin hown hK hP (by decide +kernel) dX10_citizen_63 ?_
          refine lv_iload_n hx hb dX10_citizen_66 rfl (lv_at hl 1 rfl) ?_
          refine ms_tribe hx hb hK hP hD hS (hin9) dX10_citizen_67 (fun H locs hP hD hS => ?_)
          refine lv_aload_n hx hb dX10_citizen_68 rfl (lv_at hl 0 rfl) ?_
          refine mg_letter hx hb hts hin hown hK hP (by decide +kernel) dX10_citizen_69 ?_
          refine lv_aload_n hx hb dX10_citizen_72 rfl (lv_at hl 0 rfl) ?_
          refine mg_citizens hx hb hts hin hown hK hP (by decide +kernel) dX10_citizen_73 ?_
          refine lv_iload_n hx hb dX10_citizen_76 rfl (lv_at hl 2 rfl) ?_
          refine ms_letter hx hb hK hP hD hS (hin9) dX10_citizen_77 (fun H locs hP hD hS => ?_)
          refine lv_aload_n hx hb dX10_citizen_78 rfl (lv_at hl 0 rfl) ?_
          refine mg_born hx hb hts hin hown hK hP (by decide +kernel) dX10_citizen_79 ?_
          refine lv_aload_n hx hb dX10_citizen_82 rfl (lv_at hl 0 rfl) ?_
          refine mg_citizens hx hb hts hin hown hK hP (by decide +kernel) dX10_citizen_83 ?_
          refine lv_iload_n hx hb dX10_citizen_86 rfl (lv_at hl 3 rfl) ?_
          refine ms_born hx hb hK hP hD hS (hin9) dX10_citizen_87 (fun H locs hP hD hS => ?_)
          refine lv_aload_n hx hb dX10_citizen_88 rfl (lv_at hl 0 rfl) ?_
          refine mg_place hx hb hts hin hown hK hP (by decide +kernel) dX10_citizen_89 ?_
          refine lv_aload_n hx hb dX10_citizen_92 rfl (lv_at hl 0 rfl) ?_
          refine mg_citizens hx hb hts hin hown hK hP (by decide +kernel) dX10_citizen_93 ?_
          refine lv_iconst (v := (-1)) hx hb dX10_citizen_96 (by decide) ?_
          refine ms_place hx hb hK hP hD hS (hin9) dX10_citizen_97 (fun H locs hP hD hS => ?_)
          refine lv_aload_n hx hb dX10_citizen_98 rfl (lv_at hl 0 rfl) ?_
          refine mg_sent hx hb hts hin hown hK hP (by decide +kernel) dX10_citizen_99 ?_
          refine lv_aload_n hx hb dX10_citizen_102 rfl (lv_at hl 0 rfl) ?_
          refine mg_citizens hx hb hts hin hown hK hP (by decide +kernel) dX10_citizen_103 ?_
          refine lv_iconst (v := (-1)) hx hb dX10_citizen_106 (by decide) ?_
          refine ms_sent hx hb hK hP hD hS (hin9) dX10_citizen_107 (fun H locs hP hD hS => ?_)
          refine lv_aload_n hx hb dX10_citizen_108 rfl (lv_at hl 0 rfl) ?_
          refine lv_dup hx hb dX10_citizen_109 rfl ?_
          refine mg_citizens hx hb hts hin hown hK hP (by decide +kernel) dX10_citizen_110 ?_
          refine lv_iconst (v := 1) hx hb dX10_citizen_113 (by decide) ?_
          refine lv_iadd hx hb dX10_citizen_114 ?_
          refine mp_citizens hx hb hts hin hown hK hP hD hS (by decide +kernel) dX10_citizen_115 (fun H locs hP hD hS => ?_)
          refine lv_aload_n hx hb dX10_citizen_118 rfl (lv_at hl 0 rfl) ?_
          refine mg_citizens hx hb hts hin hown hK hP (by decide +kernel) dX10_citizen_119 ?_
          refine lv_iconst (v := 1) hx hb dX10_citizen_122 (by decide) ?_
          refine lv_isub hx hb dX10_citizen_123 ?_
          exact m_reti hx hb hr hlocks hAe hK hP hD hS rfl dX10_citizen_124 (by rw [spCitizen, if_pos (by simp only [b9, b21, b39]; rfl), if_neg hn5]; simp only [mrU, miU, hcn]; rw [show upd v.1 15 (v.1 15 + 1) 15 = nI (n + 1) by rw [pk_us, hn, nI_1], show v.1 15 + 1 = nI (n + 1) by rw [hn, nI_1], show nI (n + 1) - 1 = nI n from nI_pred n])
        · have hn5 : n = 150 := by rw [hn] at c_52; exact (nI_eq (b := 150) (by omega) (by omega)).mp c_52
          refine lv_bipush (v := (-3)) hx hb dX10_citizen_55 (by decide) ?_
          exact m_reti hx hb hr hlocks hAe hK hP hD hS rfl dX10_citizen_57 (by rw [spCitizen, if_pos (by simp only [b9, b21, b39]; rfl), if_pos hn5])
      · rw [mIn_R, Int32.toInt_toInt64] at c_39
        have b39 : inR (-40000) (v.1 14 - 1).toInt b = false := (zI_eq _).mp c_39
        refine lv_bipush (v := (-2)) hx hb dX10_citizen_42 (by decide) ?_
        exact m_reti hx hb hr hlocks hAe hK hP hD hS rfl dX10_citizen_44 (by rw [spCitizen, if_neg (by simp only [b9, b21, b39, Bool.false_and, Bool.and_false]; decide)])
def spLot (v : mS) (k : Int32) : Int32 × mS := if isK k then (if v.2.1 31 (sI k) = 0 ∨ v.2.1 32 (sI k) = v.2.1 31 (sI k) then (-4, v) else if v.1 28 = v.1 27 then (-1, v) else (v.2.1 26 (sI (v.1 28)), mrU (mrU (mrU (miU v 28 (v.1 28 + 1)) 24 (sI (v.2.1 26 (sI (v.1 28)))) k) 33 (25 * sI k + sI (v.2.1 32 (sI k))) (v.2.1 26 (sI (v.1 28)))) 32 (sI k) (v.2.1 32 (sI k) + 1))) else (-2, v)
set_option maxHeartbeats 4000000 in
set_option maxRecDepth 100000 in
/-- lot(k) -/
theorem ctX10_lot (l : Launch) (D : va_G) (y : Nat → ClassId) (h : Nat) (a : Nat → Nat) (v : mS) (k : Int32) (ns sz : Nat → Nat) (lo cm : Nat) (hns : ∀ k, k < 5 → v.2.1 32 k = nI (ns k) ∧ ns k ≤ 25) (hsz : ∀ k, k < 5 → v.2.1 31 k = nI (sz k) ∧ ns k ≤ sz k ∧ sz k ≤ 25) (hlo : v.1 28 = nI lo) (hlo1 : lo ≤ cm) (hcm : v.1 27 = nI cm) (hcm1 : cm ≤ 150) (hch : ∀ i, i < cm → ∃ c, c < 150 ∧ v.2.1 26 i = nI c) : mMi l yX10_lot wsX10_lot ({ frames := 2, cells := 0, slots := 0, locals := 45 }) D y h a v [.ref h, .int k] (fun r v' => (r, v') = spLot v k) := by
  refine mMi_of (cc := cX10_lot) (maxL := 3) (ret := (some .int)) rfl rfl (Nat.le_of_ble_eq_true rfl) ?_
  intro p e s m below meth c A ls hat hAe hl
  obtain ⟨hx, hb, hr, hml, hts, hown, hlocks, hK, hP, hD, hA⟩ := hat
  have hin : ∀ w ∈ wsX100, w ∈ wsX10_lot := fun _ h9 => List.mem_cons_of_mem _ (List.mem_append_right _ h9)
  have hl : lv_has ls 3 [(0, .ref h), (1, .int k)] := hl
  have hS : va_S A s.heap s.heap [] := va_S.rf
  refine lv_iload_n hx hb dX10_lot_0 rfl (lv_at hl 1 rfl) ?_
  refine s_calli (As := [.int k]) (rest := []) ⟨hx, hb, hml, hown, hts⟩ (ctX10_isCourt l k) (cwS 1 hts gX10_lot_X10_isCourt rfl rfl rfl (by decide +kernel) ⟨Nat.le_of_ble_eq_true rfl, Nat.le_of_ble_eq_true rfl⟩) hP hS rfl hl.1 rfl (Nat.le_of_ble_eq_true rfl) dX10_lot_1 ⟨Nat.zero_le _, Nat.zero_le _⟩ (fun H locs hP hS => ?_)
  refine lv_if_ne (tgt := 10) hx hb dX10_lot_4 (by decide) (fun c_4 => ?_) (fun c_4 => ?_)
  · have b4 : isK k = true := (zI_ne _).mp c_4
    obtain ⟨kk, hk5, etk⟩ := (inR_k 5 (hi := 4) rfl (by omega)).mp b4
    have hck : k.toNatClampNeg = kk := by rw [etk]; exact nI_clamp (by omega)
    have hik : vp_in k 5 := by rw [etk]; exact vp_in_nI hk5 (by omega)
    obtain ⟨hsn, hn25⟩ := hns kk hk5
    obtain ⟨hz1, hz2, hz3⟩ := hsz kk hk5
    refine lv_aload_n hx hb dX10_lot_10 rfl (lv_at hl 0 rfl) ?_
    refine mg_courtSize hx hb hts hin hown hK hP (by decide +kernel) dX10_lot_11 ?_
    refine lv_iload_n hx hb dX10_lot_14 rfl (lv_at hl 1 rfl) ?_
    refine ml_courtSize hx hb hK hP (hik) dX10_lot_15 ?_
    refine lv_if_eq (tgt := 34) hx hb dX10_lot_16 (by decide) (fun c_16 => ?_) (fun c_16 => ?_)
    · refine lv_bipush (v := (-4)) hx hb dX10_lot_34 (by decide) ?_
      exact m_reti hx hb hr hlocks hAe hK hP hD hS rfl dX10_lot_36 (by simp [spLot, b4, sI, c_16])
    · refine lv_aload_n hx hb dX10_lot_19 rfl (lv_at hl 0 rfl) ?_
      refine mg_sits hx hb hts hin hown hK hP (by decide +kernel) dX10_lot_20 ?_
      refine lv_iload_n hx hb dX10_lot_23 rfl (lv_at hl 1 rfl) ?_
      refine ml_sits hx hb hK hP (hik) dX10_lot_24 ?_
      refine lv_aload_n hx hb dX10_lot_25 rfl (lv_at hl 0 rfl) ?_
      refine mg_courtSize hx hb hts hin hown hK hP (by decide +kernel) dX10_lot_26 ?_
      refine lv_iload_n hx hb dX10_lot_29 rfl (lv_at hl 1 rfl) ?_
      refine ml_courtSize hx hb hK hP (hik) dX10_lot_30 ?_
      refine lv_icmp_ne (tgt := 37) hx hb dX10_lot_31 (by decide) (fun c_31 => ?_) (fun c_31 => ?_)
      · refine lv_aload_n hx hb dX10_lot_37 rfl (lv_at hl 0 rfl) ?_
        refine mg_lots hx hb hts hin hown hK hP (by decide +kernel) dX10_lot_38 ?_
        refine lv_aload_n hx hb dX10_lot_41 rfl (lv_at hl 0 rfl) ?_
        refine mg_chosenMany hx hb hts hin hown hK hP (by decide +kernel) dX10_lot_42 ?_
        refine lv_icmp_ne (tgt := 50) hx hb dX10_lot_45 (by decide) (fun c_45 => ?_) (fun c_45 => ?_)
        · have hlt : lo < cm := by rcases Nat.lt_or_ge lo cm with q | q; exact q; exact absurd (by rw [hlo, hcm, show lo = cm by omega]) c_45
          have hcl : (v.1 28).toNatClampNeg = lo := by rw [hlo]; exact nI_clamp (by omega)
          have hil : vp_in (v.1 28) 150 := by rw [hlo]; exact vp_in_nI (by omega) (by omega)
          obtain ⟨cc, hcc, etc⟩ := hch lo hlt
          have hxc : v.2.1 26 (v.1 28).toNatClampNeg = nI cc := by rw [hcl]; exact etc
          have hlt2 : ns kk < 25 := by rw [hck, hsn, hz1] at c_31; have : ns kk ≠ sz kk := fun q => c_31 (by rw [q]); omega
          have hix : (25 : Int32) * k + v.2.1 32 k.toNatClampNeg = 25 * nI kk + nI (ns kk) := by rw [hck, hsn, ← etk]
          refine lv_aload_n hx hb dX10_lot_50 rfl (lv_at hl 0 rfl) ?_
          refine mg_chosen hx hb hts hin hown hK hP (by decide +kernel) dX10_lot_51 ?_
          refine lv_aload_n hx hb dX10_lot_54 rfl (lv_at hl 0 rfl) ?_
          refine mg_lots hx hb hts hin hown hK hP (by decide +kernel) dX10_lot_55 ?_
          refine ml_chosen hx hb hK hP (hil) dX10_lot_58 ?_
          refine lv_topi (fun x2 ex2 => ?_)
          refine lv_istore_n (lv' := [(2, .int x2), (0, .ref h), (1, .int k)]) hx hb dX10_lot_59 rfl hl (by decide) rfl (fun ls hl => ?_)
          refine lv_aload_n hx hb dX10_lot_60 rfl (lv_at hl 1 rfl) ?_
          refine lv_dup hx hb dX10_lot_61 rfl ?_
          refine mg_lots hx hb hts hin hown hK hP (by decide +kernel) dX10_lot_62 ?_
          refine lv_iconst (v := 1) hx hb dX10_lot_65 (by decide) ?_
          refine lv_iadd hx hb dX10_lot_66 ?_
          refine mp_lots hx hb hts hin hown hK hP hD hS (by decide +kernel) dX10_lot_67 (fun H locs hP hD hS => ?_)
          refine lv_aload_n hx hb dX10_lot_70 rfl (lv_at hl 1 rfl) ?_
          refine mg_sent hx hb hts hin hown hK hP (by decide +kernel) dX10_lot_71 ?_
          refine lv_iload_n hx hb dX10_lot_74 rfl (lv_at hl 0 rfl) ?_
          refine lv_iload_n hx hb dX10_lot_75 rfl (lv_at hl 2 rfl) ?_
          refine ms_sent hx hb hK hP hD hS (by rw [ex2, hxc]; exact vp_in_nI hcc (by omega)) dX10_lot_76 (fun H locs hP hD hS => ?_)
          refine lv_aload_n hx hb dX10_lot_77 rfl (lv_at hl 1 rfl) ?_
          refine mg_seats hx hb hts hin hown hK hP (by decide +kernel) dX10_lot_78 ?_
          refine lv_bipush (v := 25) hx hb dX10_lot_81 (by decide) ?_
          refine lv_iload_n hx hb dX10_lot_83 rfl (lv_at hl 2 rfl) ?_
          refine lv_imul hx hb dX10_lot_84 ?_
          refine lv_aload_n hx hb dX10_lot_85 rfl (lv_at hl 1 rfl) ?_
          refine mg_sits hx hb hts hin hown hK hP (by decide +kernel) dX10_lot_86 ?_
          refine lv_iload_n hx hb dX10_lot_89 rfl (lv_at hl 2 rfl) ?_
          refine ml_sits hx hb hK hP (hik) dX10_lot_90 ?_
          refine lv_iadd hx hb dX10_lot_91 ?_
          refine lv_iload_n hx hb dX10_lot_92 rfl (lv_at hl 0 rfl) ?_
          rw [show (mrU (miU v 28 (v.1 28 + 1)) 24 x2.toNatClampNeg k).2.1 32 k.toNatClampNeg = v.2.1 32 k.toNatClampNeg from rfl, hix]
          refine ms_seats hx hb hK hP hD hS (ix25i hk5 hlt2) dX10_lot_93 (fun H locs hP hD hS => ?_)
          refine lv_aload_n hx hb dX10_lot_94 rfl (lv_at hl 1 rfl) ?_
          refine mg_sits hx hb hts hin hown hK hP (by decide +kernel) dX10_lot_95 ?_
          refine lv_iload_n hx hb dX10_lot_98 rfl (lv_at hl 2 rfl) ?_
          refine lv_dup2_11 hx hb dX10_lot_99 rfl rfl ?_
          refine ml_sits hx hb hK hP (hik) dX10_lot_100 ?_
          refine lv_iconst (v := 1) hx hb dX10_lot_101 (by decide) ?_
          refine lv_iadd hx hb dX10_lot_102 ?_
          refine ms_sits hx hb hK hP hD hS (hik) dX10_lot_103 (fun H locs hP hD hS => ?_)
          refine lv_iload_n hx hb dX10_lot_104 rfl (lv_at hl 0 rfl) ?_
          exact m_reti hx hb hr hlocks hAe hK hP hD hS rfl dX10_lot_105 (by rw [spLot, if_pos b4, if_neg (by simp [sI, c_16, c_31]), if_neg c_45, ix25c hk5 hlt2, ex2, show sI k = kk from hck, hck, show sI (v.2.1 32 kk) = ns kk by rw [hsn]; exact nI_clamp (by omega)]; rfl)
        · refine lv_iconst (v := (-1)) hx hb dX10_lot_48 (by decide) ?_
          exact m_reti hx hb hr hlocks hAe hK hP hD hS rfl dX10_lot_49 (by simp [spLot, b4, sI, c_16, c_31, c_45])
      · refine lv_bipush (v := (-4)) hx hb dX10_lot_34 (by decide) ?_
        exact m_reti hx hb hr hlocks hAe hK hP hD hS rfl dX10_lot_36 (by simp [spLot, b4, sI, c_16, c_31])
  · have b4 : isK k = false := (zI_eq _).mp c_4
    refine lv_bipush (v := (-2)) hx hb dX10_lot_7 (by decide) ?_
    exact m_reti hx hb hr hlocks hAe hK hP hD hS rfl dX10_lot_9 (by simp [spLot, b4])
def spSpeak (ns : Nat → Nat) (v : mS) (k sd q : Int32) : Int32 × mS := if isK k && (inR 0 1 sd && inR 1 1000 q) then (if v.2.1 36 (sI k) = 0 ∨ (sd = 1 ∧ v.2.1 43 (sI k) = 0) ∨ ¬ v.2.1 44 (sI k) = 0 ∨ anyn (mHasP v (sI k)) (ns (sI k)) = true ∨ ¬ q ≤ v.2.1 42 (2 * sI k + sI sd) then (-4, v) else (v.2.1 42 (2 * sI k + sI sd) - q, mrU (mrU v 43 (sI k) 1) 42 (2 * sI k + sI sd) (v.2.1 42 (2 * sI k + sI sd) - q))) else (-2, v)
theorem ix2 (k j : Nat) : (2 : Int32) * nI k + nI j = nI (2 * k + j) := by rw [show (2 : Int32) = nI 2 from rfl, pk_mul, nI_add]
set_option maxHeartbeats 4000000 in
set_option maxRecDepth 100000 in
/-- speak(k, sd, q) -/
theorem ctX10_speak (l : Launch) (D : va_G) (y : Nat → ClassId) (h : Nat) (a : Nat → Nat) (v : mS) (k sd q : Int32) (ns : Nat → Nat) (hns : ∀ k, k < 5 → v.2.1 32 k = nI (ns k) ∧ ns k ≤ 25) : mMi l yX10_speak wsX10_speak ({ frames := 2, cells := 0, slots := 0, locals := 45 }) D y h a v [.ref h, .int k, .int sd, .int q] (fun r v' => (r, v') = spSpeak ns v k sd q) := by
  refine mMi_of (cc := cX10_speak) (maxL := 4) (ret := (some .int)) rfl rfl (Nat.le_of_ble_eq_true rfl) ?_
  intro p e s m below meth c A ls hat hAe hl
  obtain ⟨hx, hb, hr, hml, hts, hown, hlocks, hK, hP, hD, hA⟩ := hat
  have hin : ∀ w ∈ wsX100, w ∈ wsX10_speak := fun _ h9 => List.mem_cons_of_mem _ (List.mem_append_right _ h9)
  have hl : lv_has ls 4 [(0, .ref h), (1, .int k), (2, .int sd), (3, .int q)] := hl
  have hS : va_S A s.heap s.heap [] := va_S.rf
  refine lv_iload_n hx hb dX10_speak_0 rfl (lv_at hl 1 rfl) ?_
  refine s_calli (As := [.int k]) (rest := []) ⟨hx, hb, hml, hown, hts⟩ (ctX10_isCourt l k) (cwS 1 hts gX10_speak_X10_isCourt rfl rfl rfl (by decide +kernel) ⟨Nat.le_of_ble_eq_true rfl, Nat.le_of_ble_eq_true rfl⟩) hP hS rfl hl.1 rfl (Nat.le_of_ble_eq_true rfl) dX10_speak_1 ⟨Nat.zero_le _, Nat.zero_le _⟩ (fun H locs hP hS => ?_)
  refine lv_if_eq (tgt := 29) hx hb dX10_speak_4 (by decide) (fun c_4 => ?_) (fun c_4 => ?_)
  · have b4 : isK k = false := (zI_eq _).mp c_4
    refine lv_bipush (v := (-2)) hx hb dX10_speak_29 (by decide) ?_
    exact m_reti hx hb hr hlocks hAe hK hP hD hS rfl dX10_speak_31 (by rw [spSpeak, if_neg (by simp [b4])])
  · have b4 : isK k = true := (zI_ne _).mp c_4
    obtain ⟨kk, hk5, etk⟩ := (inR_k 5 (hi := 4) rfl (by omega)).mp b4
    have hck : k.toNatClampNeg = kk := by rw [etk]; exact nI_clamp (by omega)
    have hik : vp_in k 5 := by rw [etk]; exact vp_in_nI hk5 (by omega)
    obtain ⟨hsn, hn25⟩ := hns kk hk5
    have hsk : sI k = kk := hck
    refine lv_iload_n hx hb dX10_speak_7 rfl (lv_at hl 2 rfl) ?_
    refine lv_i2l hx hb dX10_speak_8 rfl ?_
    refine lv_lconst (v := 0) hx hb dX10_speak_9 (by decide) ?_
    refine lv_lconst (v := 1) hx hb dX10_speak_10 (by decide) ?_
    refine s_calli (As := [.long (sd.toInt64), .long 0, .long 1]) (rest := []) ⟨hx, hb, hml, hown, hts⟩ (ctX10_in l _ _ _) (cwS 3 hts gX10_speak_X10_in rfl rfl rfl (by decide +kernel) ⟨Nat.le_of_ble_eq_true rfl, Nat.le_of_ble_eq_true rfl⟩) hP hS rfl hl.1 rfl (Nat.le_of_ble_eq_true rfl) dX10_speak_11 ⟨Nat.zero_le _, Nat.zero_le _⟩ (fun H locs hP hS => ?_)
    refine lv_if_eq (tgt := 29) hx hb dX10_speak_14 (by decide) (fun c_14 => ?_) (fun c_14 => ?_)
    · rw [mIn_R] at c_14
      have b14 : inR 0 1 sd = false := (zI_eq _).mp c_14
      refine lv_bipush (v := (-2)) hx hb dX10_speak_29 (by decide) ?_
      exact m_reti hx hb hr hlocks hAe hK hP hD hS rfl dX10_speak_31 (by rw [spSpeak, if_neg (by simp [b4, b14])])
    · rw [mIn_R] at c_14
      have b14 : inR 0 1 sd = true := (zI_ne _).mp c_14
      obtain ⟨dd, hd2, etd⟩ := (inR_k 2 (hi := 1) rfl (by omega)).mp b14
      have hsd : sI sd = dd := by rw [etd]; exact nI_clamp (by omega)
      have hix : (2 : Int32) * k + sd = nI (2 * kk + dd) := by rw [etk, etd, ix2]
      have hcx : (nI (2 * kk + dd)).toNatClampNeg = 2 * kk + dd := nI_clamp (by omega)
      have hixi : vp_in (nI (2 * kk + dd)) 10 := vp_in_nI (by omega) (by omega)
      refine lv_iload_n hx hb dX10_speak_17 rfl (lv_at hl 3 rfl) ?_
      refine lv_i2l hx hb dX10_speak_18 rfl ?_
      refine lv_lconst (v := 1) hx hb dX10_speak_19 (by decide) ?_
      refine lv_ldc2 (v := 1000) hx hb hown (hts (.constantLong RX10 286 (1000)) (by decide +kernel)) dX10_speak_20 ?_
      refine s_calli (As := [.long (q.toInt64), .long 1, .long 1000]) (rest := []) ⟨hx, hb, hml, hown, hts⟩ (ctX10_in l _ _ _) (cwS 3 hts gX10_speak_X10_in rfl rfl rfl (by decide +kernel) ⟨Nat.le_of_ble_eq_true rfl, Nat.le_of_ble_eq_true rfl⟩) hP hS rfl hl.1 rfl (Nat.le_of_ble_eq_true rfl) dX10_speak_23 ⟨Nat.zero_le _, Nat.zero_le _⟩ (fun H locs hP hS => ?_)
      refine lv_if_ne (tgt := 32) hx hb dX10_speak_26 (by decide) (fun c_26 => ?_) (fun c_26 => ?_)
      · rw [mIn_R] at c_26
        have b26 : inR 1 1000 q = true := (zI_ne _).mp c_26
        refine lv_aload_n hx hb dX10_speak_32 rfl (lv_at hl 0 rfl) ?_
        refine mg_isOpen hx hb hts hin hown hK hP (by decide +kernel) dX10_speak_33 ?_
        refine lv_iload_n hx hb dX10_speak_36 rfl (lv_at hl 1 rfl) ?_
        refine ml_isOpen hx hb hK hP (hik) dX10_speak_37 ?_
        refine lv_if_eq (tgt := 86) hx hb dX10_speak_38 (by decide) (fun c_38 => ?_) (fun c_38 => ?_)
        · rw [hck] at c_38
          refine lv_bipush (v := (-4)) hx hb dX10_speak_86 (by decide) ?_
          exact m_reti hx hb hr hlocks hAe hK hP hD hS rfl dX10_speak_88 (by rw [spSpeak, if_pos (by simp [b4, b14, b26]), hsk, hsd, if_pos (by simp [c_38])])
        · rw [hck] at c_38
          refine lv_iload_n hx hb dX10_speak_41 rfl (lv_at hl 2 rfl) ?_
          refine lv_iconst (v := 1) hx hb dX10_speak_42 (by decide) ?_
          refine lv_icmp_ne (tgt := 55) hx hb dX10_speak_43 (by decide) (fun c_43 => ?_) (fun c_43 => ?_)
          · refine lv_aload_n hx hb dX10_speak_55 rfl (lv_at hl 0 rfl) ?_
            refine mg_isHeard hx hb hts hin hown hK hP (by decide +kernel) dX10_speak_56 ?_
            refine lv_iload_n hx hb dX10_speak_59 rfl (lv_at hl 1 rfl) ?_
            refine ml_isHeard hx hb hK hP (hik) dX10_speak_60 ?_
            refine lv_if_ne (tgt := 86) hx hb dX10_speak_61 (by decide) (fun c_61 => ?_) (fun c_61 => ?_)
            · rw [hck] at c_61
              refine lv_bipush (v := (-4)) hx hb dX10_speak_86 (by decide) ?_
              exact m_reti hx hb hr hlocks hAe hK hP hD hS rfl dX10_speak_88 (by rw [spSpeak, if_pos (by simp [b4, b14, b26]), hsk, hsd, if_pos (by simp [c_38, c_43, c_61])])
            · rw [hck] at c_61
              refine lv_aload_n hx hb dX10_speak_64 rfl (lv_at hl 0 rfl) ?_
              refine lv_iload_n hx hb dX10_speak_65 rfl (lv_at hl 1 rfl) ?_
              refine m_callip (As := [.int k]) (rest := []) ⟨hx, hb, hml, hown, hts⟩ (etk ▸ ctX10_hasDisc l D y h a v kk (ns kk) hk5 hsn hn25) (cwV 1 hts gX10_speak_X10_hasDisc rfl rfl rfl (by decide +kernel) ⟨Nat.le_of_ble_eq_true rfl, Nat.le_of_ble_eq_true rfl⟩) hK hP hD hS hA rfl hl.1 rfl (Nat.le_of_ble_eq_true rfl) dX10_speak_66 ⟨Nat.zero_le _, Nat.zero_le _⟩ (fun H locs hP hD hS => ?_)
              refine lv_if_ne (tgt := 86) hx hb dX10_speak_69 (by decide) (fun c_69 => ?_) (fun c_69 => ?_)
              · have b69 : anyn (mHasP v kk) (ns kk) = true := (zI_ne _).mp c_69
                refine lv_bipush (v := (-4)) hx hb dX10_speak_86 (by decide) ?_
                exact m_reti hx hb hr hlocks hAe hK hP hD hS rfl dX10_speak_88 (by rw [spSpeak, if_pos (by simp [b4, b14, b26]), hsk, hsd, if_pos (by simp [c_38, c_43, c_61, b69])])
              · have b69 : anyn (mHasP v kk) (ns kk) = false := (zI_eq _).mp c_69
                refine lv_aload_n hx hb dX10_speak_72 rfl (lv_at hl 0 rfl) ?_
                refine mg_water hx hb hts hin hown hK hP (by decide +kernel) dX10_speak_73 ?_
                refine lv_iconst (v := 2) hx hb dX10_speak_76 (by decide) ?_
                refine lv_iload_n hx hb dX10_speak_77 rfl (lv_at hl 1 rfl) ?_
                refine lv_imul hx hb dX10_speak_78 ?_
                refine lv_iload_n hx hb dX10_speak_79 rfl (lv_at hl 2 rfl) ?_
                refine lv_iadd hx hb dX10_speak_80 ?_
                rw [hix]
                refine ml_water hx hb hK hP (hixi) dX10_speak_81 ?_
                refine lv_iload_n hx hb dX10_speak_82 rfl (lv_at hl 3 rfl) ?_
                refine lv_icmp_ge (tgt := 89) hx hb dX10_speak_83 (by decide) (fun c_83 => ?_) (fun c_83 => ?_)
                · rw [hcx] at c_83
                  refine lv_aload_n hx hb dX10_speak_89 rfl (lv_at hl 0 rfl) ?_
                  refine mg_hasBegun hx hb hts hin hown hK hP (by decide +kernel) dX10_speak_90 ?_
                  refine lv_iload_n hx hb dX10_speak_93 rfl (lv_at hl 1 rfl) ?_
                  refine lv_iconst (v := 1) hx hb dX10_speak_94 (by decide) ?_
                  refine ms_hasBegun hx hb hK hP hD hS (hik) dX10_speak_95 (fun H locs hP hD hS => ?_)
                  refine lv_aload_n hx hb dX10_speak_96 rfl (lv_at hl 0 rfl) ?_
                  refine mg_water hx hb hts hin hown hK hP (by decide +kernel) dX10_speak_97 ?_
                  refine lv_iconst (v := 2) hx hb dX10_speak_100 (by decide) ?_
                  refine lv_iload_n hx hb dX10_speak_101 rfl (lv_at hl 1 rfl) ?_
                  refine lv_imul hx hb dX10_speak_102 ?_
                  refine lv_iload_n hx hb dX10_speak_103 rfl (lv_at hl 2 rfl) ?_
                  refine lv_iadd hx hb dX10_speak_104 ?_
                  refine lv_dup2_11 hx hb dX10_speak_105 rfl rfl ?_
                  rw [hix]
                  refine ml_water hx hb hK hP (hixi) dX10_speak_106 ?_
                  refine lv_iload_n hx hb dX10_speak_107 rfl (lv_at hl 3 rfl) ?_
                  refine lv_isub hx hb dX10_speak_108 ?_
                  refine ms_water hx hb hK hP hD hS (hixi) dX10_speak_109 (fun H locs hP hD hS => ?_)
                  refine lv_aload_n hx hb dX10_speak_110 rfl (lv_at hl 0 rfl) ?_
                  refine mg_water hx hb hts hin hown hK hP (by decide +kernel) dX10_speak_111 ?_
                  refine lv_iconst (v := 2) hx hb dX10_speak_114 (by decide) ?_
                  refine lv_iload_n hx hb dX10_speak_115 rfl (lv_at hl 1 rfl) ?_
                  refine lv_imul hx hb dX10_speak_116 ?_
                  refine lv_iload_n hx hb dX10_speak_117 rfl (lv_at hl 2 rfl) ?_
                  refine lv_iadd hx hb dX10_speak_118 ?_
                  rw [hix]
                  refine ml_water hx hb hK hP (hixi) dX10_speak_119 ?_
                  exact m_reti hx hb hr hlocks hAe hK hP hD hS rfl dX10_speak_120 (by rw [hcx, spSpeak, if_pos (by simp [b4, b14, b26]), hsk, hsd, if_neg (by simp [c_38, c_43, c_61, c_83, b69]), hck, nar1]; simp [mrU, va_up, upd])
                · rw [hcx] at c_83
                  refine lv_bipush (v := (-4)) hx hb dX10_speak_86 (by decide) ?_
                  exact m_reti hx hb hr hlocks hAe hK hP hD hS rfl dX10_speak_88 (by rw [spSpeak, if_pos (by simp [b4, b14, b26]), hsk, hsd, if_pos (by simp [c_38, c_43, c_61, c_83, b69])])
          · refine lv_aload_n hx hb dX10_speak_46 rfl (lv_at hl 0 rfl) ?_
            refine mg_hasBegun hx hb hts hin hown hK hP (by decide +kernel) dX10_speak_47 ?_
            refine lv_iload_n hx hb dX10_speak_50 rfl (lv_at hl 1 rfl) ?_
            refine ml_hasBegun hx hb hK hP (hik) dX10_speak_51 ?_
            refine lv_if_eq (tgt := 86) hx hb dX10_speak_52 (by decide) (fun c_52 => ?_) (fun c_52 => ?_)
            · rw [hck] at c_52
              refine lv_bipush (v := (-4)) hx hb dX10_speak_86 (by decide) ?_
              exact m_reti hx hb hr hlocks hAe hK hP hD hS rfl dX10_speak_88 (by rw [spSpeak, if_pos (by simp [b4, b14, b26]), hsk, hsd, if_pos (by simp [c_38, c_43, c_52])])
            · rw [hck] at c_52
              refine lv_aload_n hx hb dX10_speak_55 rfl (lv_at hl 0 rfl) ?_
              refine mg_isHeard hx hb hts hin hown hK hP (by decide +kernel) dX10_speak_56 ?_
              refine lv_iload_n hx hb dX10_speak_59 rfl (lv_at hl 1 rfl) ?_
              refine ml_isHeard hx hb hK hP (hik) dX10_speak_60 ?_
              refine lv_if_ne (tgt := 86) hx hb dX10_speak_61 (by decide) (fun c_61 => ?_) (fun c_61 => ?_)
              · rw [hck] at c_61
                refine lv_bipush (v := (-4)) hx hb dX10_speak_86 (by decide) ?_
                exact m_reti hx hb hr hlocks hAe hK hP hD hS rfl dX10_speak_88 (by rw [spSpeak, if_pos (by simp [b4, b14, b26]), hsk, hsd, if_pos (by simp [c_38, c_43, c_52, c_61])])
              · rw [hck] at c_61
                refine lv_aload_n hx hb dX10_speak_64 rfl (lv_at hl 0 rfl) ?_
                refine lv_iload_n hx hb dX10_speak_65 rfl (lv_at hl 1 rfl) ?_
                refine m_callip (As := [.int k]) (rest := []) ⟨hx, hb, hml, hown, hts⟩ (etk ▸ ctX10_hasDisc l D y h a v kk (ns kk) hk5 hsn hn25) (cwV 1 hts gX10_speak_X10_hasDisc rfl rfl rfl (by decide +kernel) ⟨Nat.le_of_ble_eq_true rfl, Nat.le_of_ble_eq_true rfl⟩) hK hP hD hS hA rfl hl.1 rfl (Nat.le_of_ble_eq_true rfl) dX10_speak_66 ⟨Nat.zero_le _, Nat.zero_le _⟩ (fun H locs hP hD hS => ?_)
                refine lv_if_ne (tgt := 86) hx hb dX10_speak_69 (by decide) (fun c_69 => ?_) (fun c_69 => ?_)
                · have b69 : anyn (mHasP v kk) (ns kk) = true := (zI_ne _).mp c_69
                  refine lv_bipush (v := (-4)) hx hb dX10_speak_86 (by decide) ?_
                  exact m_reti hx hb hr hlocks hAe hK hP hD hS rfl dX10_speak_88 (by rw [spSpeak, if_pos (by simp [b4, b14, b26]), hsk, hsd, if_pos (by simp [c_38, c_43, c_52, c_61, b69])])
                · have b69 : anyn (mHasP v kk) (ns kk) = false := (zI_eq _).mp c_69
                  refine lv_aload_n hx hb dX10_speak_72 rfl (lv_at hl 0 rfl) ?_
                  refine mg_water hx hb hts hin hown hK hP (by decide +kernel) dX10_speak_73 ?_
                  refine lv_iconst (v := 2) hx hb dX10_speak_76 (by decide) ?_
                  refine lv_iload_n hx hb dX10_speak_77 rfl (lv_at hl 1 rfl) ?_
                  refine lv_imul hx hb dX10_speak_78 ?_
                  refine lv_iload_n hx hb dX10_speak_79 rfl (lv_at hl 2 rfl) ?_
                  refine lv_iadd hx hb dX10_speak_80 ?_
                  rw [hix]
                  refine ml_water hx hb hK hP (hixi) dX10_speak_81 ?_
                  refine lv_iload_n hx hb dX10_speak_82 rfl (lv_at hl 3 rfl) ?_
                  refine lv_icmp_ge (tgt := 89) hx hb dX10_speak_83 (by decide) (fun c_83 => ?_) (fun c_83 => ?_)
                  · rw [hcx] at c_83
                    refine lv_aload_n hx hb dX10_speak_89 rfl (lv_at hl 0 rfl) ?_
                    refine mg_hasBegun hx hb hts hin hown hK hP (by decide +kernel) dX10_speak_90 ?_
                    refine lv_iload_n hx hb dX10_speak_93 rfl (lv_at hl 1 rfl) ?_
                    refine lv_iconst (v := 1) hx hb dX10_speak_94 (by decide) ?_
                    refine ms_hasBegun hx hb hK hP hD hS (hik) dX10_speak_95 (fun H locs hP hD hS => ?_)
                    refine lv_aload_n hx hb dX10_speak_96 rfl (lv_at hl 0 rfl) ?_
                    refine mg_water hx hb hts hin hown hK hP (by decide +kernel) dX10_speak_97 ?_
                    refine lv_iconst (v := 2) hx hb dX10_speak_100 (by decide) ?_
                    refine lv_iload_n hx hb dX10_speak_101 rfl (lv_at hl 1 rfl) ?_
                    refine lv_imul hx hb dX10_speak_102 ?_
                    refine lv_iload_n hx hb dX10_speak_103 rfl (lv_at hl 2 rfl) ?_
                    refine lv_iadd hx hb dX10_speak_104 ?_
                    refine lv_dup2_11 hx hb dX10_speak_105 rfl rfl ?_
                    rw [hix]
                    refine ml_water hx hb hK hP (hixi) dX10_speak_106 ?_
                    refine lv_iload_n hx hb dX10_speak_107 rfl (lv_at hl 3 rfl) ?_
                    refine lv_isub hx hb dX10_speak_108 ?_
                    refine ms_water hx hb hK hP hD hS (hixi) dX10_speak_109 (fun H locs hP hD hS => ?_)
                    refine lv_aload_n hx hb dX10_speak_110 rfl (lv_at hl 0 rfl) ?_
                    refine mg_water hx hb hts hin hown hK hP (by decide +kernel) dX10_speak_111 ?_
                    refine lv_iconst (v := 2) hx hb dX10_speak_114 (by decide) ?_
                    refine lv_iload_n hx hb dX10_speak_115 rfl (lv_at hl 1 rfl) ?_
                    refine lv_imul hx hb dX10_speak_116 ?_
                    refine lv_iload_n hx hb dX10_speak_117 rfl (lv_at hl 2 rfl) ?_
                    refine lv_iadd hx hb dX10_speak_118 ?_
                    rw [hix]
                    refine ml_water hx hb hK hP (hixi) dX10_speak_119 ?_
                    exact m_reti hx hb hr hlocks hAe hK hP hD hS rfl dX10_speak_120 (by rw [hcx, spSpeak, if_pos (by simp [b4, b14, b26]), hsk, hsd, if_neg (by simp [c_38, c_43, c_52, c_61, c_83, b69]), hck, nar1]; simp [mrU, va_up, upd])
                  · rw [hcx] at c_83
                    refine lv_bipush (v := (-4)) hx hb dX10_speak_86 (by decide) ?_
                    exact m_reti hx hb hr hlocks hAe hK hP hD hS rfl dX10_speak_88 (by rw [spSpeak, if_pos (by simp [b4, b14, b26]), hsk, hsd, if_pos (by simp [c_38, c_43, c_52, c_61, c_83, b69])])
      · rw [mIn_R] at c_26
        have b26 : inR 1 1000 q = false := (zI_eq _).mp c_26
        refine lv_bipush (v := (-2)) hx hb dX10_speak_29 (by decide) ?_
        exact m_reti hx hb hr hlocks hAe hK hP hD hS rfl dX10_speak_31 (by rw [spSpeak, if_neg (by simp [b4, b14, b26])])
def spWitness (ns : Nat → Nat) (v : mS) (k : Int32) : Int32 × mS := if isK k then (if v.2.1 36 (sI k) = 0 ∨ anyn (mHasP v (sI k)) (ns (sI k)) = true then (-4, v) else if v.2.1 44 (sI k) = 0 then (1, mrU v 44 (sI k) 1) else (0, mrU v 44 (sI k) 0)) else (-2, v)
set_option maxHeartbeats 4000000 in
set_option maxRecDepth 100000 in
/-- witness(k) -/
theorem ctX10_witness (l : Launch) (D : va_G) (y : Nat → ClassId) (h : Nat) (a : Nat → Nat) (v : mS) (k : Int32) (ns : Nat → Nat) (hns : ∀ k, k < 5 → v.2.1 32 k = nI (ns k) ∧ ns k ≤ 25) : mMi l yX10_witness wsX10_witness ({ frames := 2, cells := 0, slots := 0, locals := 45 }) D y h a v [.ref h, .int k] (fun r v' => (r, v') = spWitness ns v k) := by
  refine mMi_of (cc := cX10_witness) (maxL := 2) (ret := (some .int)) rfl rfl (Nat.le_of_ble_eq_true rfl) ?_
  intro p e s m below meth c A ls hat hAe hl
  obtain ⟨hx, hb, hr, hml, hts, hown, hlocks, hK, hP, hD, hA⟩ := hat
  have hin : ∀ w ∈ wsX100, w ∈ wsX10_witness := fun _ h9 => List.mem_cons_of_mem _ (List.mem_append_right _ h9)
  have hl : lv_has ls 2 [(0, .ref h), (1, .int k)] := hl
  have hS : va_S A s.heap s.heap [] := va_S.rf
  refine lv_iload_n hx hb dX10_witness_0 rfl (lv_at hl 1 rfl) ?_
  refine s_calli (As := [.int k]) (rest := []) ⟨hx, hb, hml, hown, hts⟩ (ctX10_isCourt l k) (cwS 1 hts gX10_witness_X10_isCourt rfl rfl rfl (by decide +kernel) ⟨Nat.le_of_ble_eq_true rfl, Nat.le_of_ble_eq_true rfl⟩) hP hS rfl hl.1 rfl (Nat.le_of_ble_eq_true rfl) dX10_witness_1 ⟨Nat.zero_le _, Nat.zero_le _⟩ (fun H locs hP hS => ?_)
  refine lv_if_ne (tgt := 10) hx hb dX10_witness_4 (by decide) (fun c_4 => ?_) (fun c_4 => ?_)
  · have b4 : isK k = true := (zI_ne _).mp c_4
    obtain ⟨kk, hk5, etk⟩ := (inR_k 5 (hi := 4) rfl (by omega)).mp b4
    have hck : k.toNatClampNeg = kk := by rw [etk]; exact nI_clamp (by omega)
    have hik : vp_in k 5 := by rw [etk]; exact vp_in_nI hk5 (by omega)
    obtain ⟨hsn, hn25⟩ := hns kk hk5
    have hsk : sI k = kk := hck
    refine lv_aload_n hx hb dX10_witness_10 rfl (lv_at hl 0 rfl) ?_
    refine mg_isOpen hx hb hts hin hown hK hP (by decide +kernel) dX10_witness_11 ?_
    refine lv_iload_n hx hb dX10_witness_14 rfl (lv_at hl 1 rfl) ?_
    refine ml_isOpen hx hb hK hP (hik) dX10_witness_15 ?_
    refine lv_if_eq (tgt := 27) hx hb dX10_witness_16 (by decide) (fun c_16 => ?_) (fun c_16 => ?_)
    · rw [hck] at c_16
      refine lv_bipush (v := (-4)) hx hb dX10_witness_27 (by decide) ?_
      exact m_reti hx hb hr hlocks hAe hK hP hD hS rfl dX10_witness_29 (by rw [spWitness, if_pos b4, hsk, if_pos (by simp [c_16])])
    · rw [hck] at c_16
      refine lv_aload_n hx hb dX10_witness_19 rfl (lv_at hl 0 rfl) ?_
      refine lv_iload_n hx hb dX10_witness_20 rfl (lv_at hl 1 rfl) ?_
      refine m_callip (As := [.int k]) (rest := []) ⟨hx, hb, hml, hown, hts⟩ (etk ▸ ctX10_hasDisc l D y h a v kk (ns kk) hk5 hsn hn25) (cwV 1 hts gX10_witness_X10_hasDisc rfl rfl rfl (by decide +kernel) ⟨Nat.le_of_ble_eq_true rfl, Nat.le_of_ble_eq_true rfl⟩) hK hP hD hS hA rfl hl.1 rfl (Nat.le_of_ble_eq_true rfl) dX10_witness_21 ⟨Nat.zero_le _, Nat.zero_le _⟩ (fun H locs hP hD hS => ?_)
      refine lv_if_eq (tgt := 30) hx hb dX10_witness_24 (by decide) (fun c_24 => ?_) (fun c_24 => ?_)
      · have b24 : anyn (mHasP v kk) (ns kk) = false := (zI_eq _).mp c_24
        refine lv_aload_n hx hb dX10_witness_30 rfl (lv_at hl 0 rfl) ?_
        refine mg_isHeard hx hb hts hin hown hK hP (by decide +kernel) dX10_witness_31 ?_
        refine lv_iload_n hx hb dX10_witness_34 rfl (lv_at hl 1 rfl) ?_
        refine lv_aload_n hx hb dX10_witness_35 rfl (lv_at hl 0 rfl) ?_
        refine mg_isHeard hx hb hts hin hown hK hP (by decide +kernel) dX10_witness_36 ?_
        refine lv_iload_n hx hb dX10_witness_39 rfl (lv_at hl 1 rfl) ?_
        refine ml_isHeard hx hb hK hP (hik) dX10_witness_40 ?_
        refine lv_if_ne (tgt := 48) hx hb dX10_witness_41 (by decide) (fun c_41 => ?_) (fun c_41 => ?_)
        · rw [hck] at c_41
          refine lv_iconst (v := 0) hx hb dX10_witness_48 (by decide) ?_
          refine ms_isHeard hx hb hK hP hD hS (hik) dX10_witness_49 (fun H locs hP hD hS => ?_)
          refine lv_aload_n hx hb dX10_witness_50 rfl (lv_at hl 0 rfl) ?_
          refine mg_isHeard hx hb hts hin hown hK hP (by decide +kernel) dX10_witness_51 ?_
          refine lv_iload_n hx hb dX10_witness_54 rfl (lv_at hl 1 rfl) ?_
          refine ml_isHeard hx hb hK hP (hik) dX10_witness_55 ?_
          refine lv_if_eq (tgt := 63) hx hb dX10_witness_56 (by decide) (fun c_56 => ?_) (fun c_56 => ?_)
          · refine lv_iconst (v := 0) hx hb dX10_witness_63 (by decide) ?_
            exact m_reti hx hb hr hlocks hAe hK hP hD hS rfl dX10_witness_64 (by rw [spWitness, if_pos b4, hsk, if_neg (by simp [c_16, b24]), hck]; simp [c_41, nar0, nar1])
          · exact absurd c_56 (by rw [hck, nar0]; simp [mrU, va_up, upd])
        · rw [hck] at c_41
          refine lv_iconst (v := 1) hx hb dX10_witness_44 (by decide) ?_
          refine lv_goto (tgt := 49) hx hb dX10_witness_45 (by decide) ?_
          refine ms_isHeard hx hb hK hP hD hS (hik) dX10_witness_49 (fun H locs hP hD hS => ?_)
          refine lv_aload_n hx hb dX10_witness_50 rfl (lv_at hl 0 rfl) ?_
          refine mg_isHeard hx hb hts hin hown hK hP (by decide +kernel) dX10_witness_51 ?_
          refine lv_iload_n hx hb dX10_witness_54 rfl (lv_at hl 1 rfl) ?_
          refine ml_isHeard hx hb hK hP (hik) dX10_witness_55 ?_
          refine lv_if_eq (tgt := 63) hx hb dX10_witness_56 (by decide) (fun c_56 => ?_) (fun c_56 => ?_)
          · exact absurd c_56 (by rw [hck, nar1]; simp [mrU, va_up, upd])
          · refine lv_iconst (v := 1) hx hb dX10_witness_59 (by decide) ?_
            refine lv_goto (tgt := 64) hx hb dX10_witness_60 (by decide) ?_
            exact m_reti hx hb hr hlocks hAe hK hP hD hS rfl dX10_witness_64 (by rw [spWitness, if_pos b4, hsk, if_neg (by simp [c_16, b24]), hck]; simp [c_41, nar0, nar1])
      · have b24 : anyn (mHasP v kk) (ns kk) = true := (zI_ne _).mp c_24
        refine lv_bipush (v := (-4)) hx hb dX10_witness_27 (by decide) ?_
        exact m_reti hx hb hr hlocks hAe hK hP hD hS rfl dX10_witness_29 (by rw [spWitness, if_pos b4, hsk, if_pos (by simp [c_16, b24])])
  · have b4 : isK k = false := (zI_eq _).mp c_4
    refine lv_bipush (v := (-2)) hx hb dX10_witness_7 (by decide) ?_
    exact m_reti hx hb hr hlocks hAe hK hP hD hS rfl dX10_witness_9 (by simp [spWitness, b4])
