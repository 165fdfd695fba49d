/-! the reference: disc, count, court, suit -/
theorem fInt_m1 {p : Nat → Bool} {n : Nat} (hn : n < 2 ^ 31) : fInt p n = -1 ↔ ¬ fstn p n 0 < n := by
  unfold fInt
  by_cases h : fstn p n 0 < n
  · rw [if_pos h]
    refine ⟨fun q => ?_, fun q => absurd h q⟩
    have h1 := nI_pos' (n := fstn p n 0) (by omega)
    rw [q] at h1
    exact absurd h1 (by decide)
  · rw [if_neg h]; exact ⟨fun _ => h, fun _ => rfl⟩
theorem fInt_s {p : Nat → Bool} {n : Nat} (h : fstn p n 0 < n) : fInt p n = nI (fstn p n 0) := by rw [fInt, if_pos h]
def dSeat (ns : Nat → Nat) (v : mS) (k : Nat) (c : Int32) : Nat := fstn (mSeatP v k c) (ns k) 0
def spDisc (ns : Nat → Nat) (v : mS) (k c d : Int32) : Int32 × mS := if isK k && inR 0 1 d then (if v.2.1 36 (sI k) = 0 ∨ ¬ dSeat ns v (sI k) c < ns (sI k) ∨ ¬ v.2.1 34 (25 * sI k + dSeat ns v (sI k) c) = -1 ∨ ¬ v.2.1 35 (25 * sI k + dSeat ns v (sI k) c) = 0 ∨ ¬ v.2.1 44 (sI k) = 0 then (-4, v) else (nI (mDiscs (mrU v 34 (25 * sI k + dSeat ns v (sI k) c) d) (sI k) 2 (ns (sI k))), mrU v 34 (25 * sI k + dSeat ns v (sI k) c) d)) else (-2, v)
set_option maxHeartbeats 4000000 in
set_option maxRecDepth 100000 in
/-- disc(k, c, d) -/
theorem ctX10_disc (l : Launch) (D : va_G) (y : Nat → ClassId) (h : Nat) (a : Nat → Nat) (v : mS) (k q d : Int32) (ns : Nat → Nat) (hns : ∀ k, k < 5 → v.2.1 32 k = nI (ns k) ∧ ns k ≤ 25) : mMi l yX10_disc wsX10_disc ({ frames := 2, cells := 0, slots := 0, locals := 45 }) D y h a v [.ref h, .int k, .int q, .int d] (fun r v' => (r, v') = spDisc ns v k q d) := by
  refine mMi_of (cc := cX10_disc) (maxL := 5) (ret := (some .int)) rfl rfl (Nat.le_of_ble_eq_true rfl) ?_
  intro p e s m below meth c A ls hat hAe hl
  obtain ⟨hx, hb, hr, hml, hts, hown, hlocks, hK, hP, hD, hA⟩ := hat
  have hin : ∀ w ∈ wsX100, w ∈ wsX10_disc := fun _ h9 => List.mem_cons_of_mem _ (List.mem_append_right _ h9)
  have hl : lv_has ls 5 [(0, .ref h), (1, .int k), (2, .int q), (3, .int d)] := hl
  have hS : va_S A s.heap s.heap [] := va_S.rf
  refine lv_iload_n hx hb dX10_disc_0 rfl (lv_at hl 1 rfl) ?_
  refine s_calli (As := [.int k]) (rest := []) ⟨hx, hb, hml, hown, hts⟩ (ctX10_isCourt l k) (cwS 1 hts gX10_disc_X10_isCourt rfl rfl rfl (by decide +kernel) ⟨Nat.le_of_ble_eq_true rfl, Nat.le_of_ble_eq_true rfl⟩) hP hS rfl hl.1 rfl (Nat.le_of_ble_eq_true rfl) dX10_disc_1 ⟨Nat.zero_le _, Nat.zero_le _⟩ (fun H locs hP hS => ?_)
  refine lv_if_eq (tgt := 17) hx hb dX10_disc_4 (by decide) (fun c_4 => ?_) (fun c_4 => ?_)
  · have b4 : isK k = false := (zI_eq _).mp c_4
    refine lv_bipush (v := (-2)) hx hb dX10_disc_17 (by decide) ?_
    exact m_reti hx hb hr hlocks hAe hK hP hD hS rfl dX10_disc_19 (by rw [spDisc, if_neg (by simp [b4])])
  · have b4 : isK k = true := (zI_ne _).mp c_4
    obtain ⟨kk, hk5, etk⟩ := (inR_k 5 (hi := 4) rfl (by omega)).mp b4
    have hck : k.toNatClampNeg = kk := by rw [etk]; exact nI_clamp (by omega)
    have hik : vp_in k 5 := by rw [etk]; exact vp_in_nI hk5 (by omega)
    obtain ⟨hsn, hn25⟩ := hns kk hk5
    have hsk : sI k = kk := hck
    refine lv_iload_n hx hb dX10_disc_7 rfl (lv_at hl 3 rfl) ?_
    refine lv_i2l hx hb dX10_disc_8 rfl ?_
    refine lv_lconst (v := 0) hx hb dX10_disc_9 (by decide) ?_
    refine lv_lconst (v := 1) hx hb dX10_disc_10 (by decide) ?_
    refine s_calli (As := [.long (d.toInt64), .long 0, .long 1]) (rest := []) ⟨hx, hb, hml, hown, hts⟩ (ctX10_in l _ _ _) (cwS 3 hts gX10_disc_X10_in rfl rfl rfl (by decide +kernel) ⟨Nat.le_of_ble_eq_true rfl, Nat.le_of_ble_eq_true rfl⟩) hP hS rfl hl.1 rfl (Nat.le_of_ble_eq_true rfl) dX10_disc_11 ⟨Nat.zero_le _, Nat.zero_le _⟩ (fun H locs hP hS => ?_)
    refine lv_if_ne (tgt := 20) hx hb dX10_disc_14 (by decide) (fun c_14 => ?_) (fun c_14 => ?_)
    · rw [mIn_R] at c_14
      have b14 : inR 0 1 d = true := (zI_ne _).mp c_14
      refine lv_aload_n hx hb dX10_disc_20 rfl (lv_at hl 0 rfl) ?_
      refine mg_isOpen hx hb hts hin hown hK hP (by decide +kernel) dX10_disc_21 ?_
      refine lv_iload_n hx hb dX10_disc_24 rfl (lv_at hl 1 rfl) ?_
      refine ml_isOpen hx hb hK hP (hik) dX10_disc_25 ?_
      refine lv_if_eq (tgt := 38) hx hb dX10_disc_26 (by decide) (fun c_26 => ?_) (fun c_26 => ?_)
      · rw [hck] at c_26
        refine lv_iconst (v := (-1)) hx hb dX10_disc_38 (by decide) ?_
        refine lv_istore (lv' := [(4, .int (-1)), (0, .ref h), (1, .int k), (2, .int q), (3, .int d)]) hx hb dX10_disc_39 hl (by decide) rfl (fun ls hl => ?_)
        refine lv_iload hx hb dX10_disc_41 (lv_at hl 0 rfl) ?_
        refine lv_iconst (v := (-1)) hx hb dX10_disc_43 (by decide) ?_
        refine lv_icmp_eq (tgt := 87) hx hb dX10_disc_44 (by decide) (fun c_44 => ?_) (fun c_44 => ?_)
        · refine lv_bipush (v := (-4)) hx hb dX10_disc_87 (by decide) ?_
          exact m_reti hx hb hr hlocks hAe hK hP hD hS rfl dX10_disc_89 (by rw [spDisc, if_pos (by simp [b4, b14]), hsk, if_pos (by simp [c_26])])
        · exact absurd rfl c_44
      · rw [hck] at c_26
        refine lv_aload_n hx hb dX10_disc_29 rfl (lv_at hl 0 rfl) ?_
        refine lv_iload_n hx hb dX10_disc_30 rfl (lv_at hl 1 rfl) ?_
        refine lv_iload_n hx hb dX10_disc_31 rfl (lv_at hl 2 rfl) ?_
        refine m_callip (As := [.int k, .int q]) (rest := []) ⟨hx, hb, hml, hown, hts⟩ (etk ▸ ctX10_seatOf l D y h a v kk q (ns kk) hk5 hsn hn25) (cwV 2 hts gX10_disc_X10_seatOf rfl rfl rfl (by decide +kernel) ⟨Nat.le_of_ble_eq_true rfl, Nat.le_of_ble_eq_true rfl⟩) hK hP hD hS hA rfl hl.1 rfl (Nat.le_of_ble_eq_true rfl) dX10_disc_32 ⟨Nat.zero_le _, Nat.zero_le _⟩ (fun H locs hP hD hS => ?_)
        refine lv_goto (tgt := 39) hx hb dX10_disc_35 (by decide) ?_
        refine lv_topi (fun x4 ex4 => ?_)
        refine lv_istore (lv' := [(4, .int x4), (0, .ref h), (1, .int k), (2, .int q), (3, .int d)]) hx hb dX10_disc_39 hl (by decide) rfl (fun ls hl => ?_)
        refine lv_iload hx hb dX10_disc_41 (lv_at hl 0 rfl) ?_
        refine lv_iconst (v := (-1)) hx hb dX10_disc_43 (by decide) ?_
        refine lv_icmp_eq (tgt := 87) hx hb dX10_disc_44 (by decide) (fun c_44 => ?_) (fun c_44 => ?_)
        · have hj : ¬ dSeat ns v kk q < ns kk := (fInt_m1 (by omega)).mp (by rw [← ex4]; exact c_44)
          refine lv_bipush (v := (-4)) hx hb dX10_disc_87 (by decide) ?_
          exact m_reti hx hb hr hlocks hAe hK hP hD hS rfl dX10_disc_89 (by rw [spDisc, if_pos (by simp [b4, b14]), hsk, if_pos (by simp [c_26, hj])])
        · have hj : dSeat ns v kk q < ns kk := by rcases Nat.lt_or_ge (dSeat ns v kk q) (ns kk) with q9 | q9; exact q9; exact absurd (by rw [ex4]; exact (fInt_m1 (by omega)).mpr (Nat.not_lt.mpr q9)) c_44
          have hx4 : x4 = nI (dSeat ns v kk q) := by rw [ex4]; exact fInt_s hj
          have hix : (25 : Int32) * k + x4 = 25 * nI kk + nI (dSeat ns v kk q) := by rw [etk, hx4]
          have hcx : ((25 : Int32) * nI kk + nI (dSeat ns v kk q)).toNatClampNeg = 25 * kk + dSeat ns v kk q := ix25c hk5 (by omega)
          have hixi : vp_in ((25 : Int32) * nI kk + nI (dSeat ns v kk q)) 125 := ix25i hk5 (by omega)
          refine lv_aload_n hx hb dX10_disc_47 rfl (lv_at hl 1 rfl) ?_
          refine mg_discs hx hb hts hin hown hK hP (by decide +kernel) dX10_disc_48 ?_
          refine lv_bipush (v := 25) hx hb dX10_disc_51 (by decide) ?_
          refine lv_iload_n hx hb dX10_disc_53 rfl (lv_at hl 2 rfl) ?_
          refine lv_imul hx hb dX10_disc_54 ?_
          refine lv_iload hx hb dX10_disc_55 (lv_at hl 0 rfl) ?_
          refine lv_iadd hx hb dX10_disc_57 ?_
          rw [hix]
          refine ml_discs hx hb hK hP (hixi) dX10_disc_58 ?_
          refine lv_iconst (v := (-1)) hx hb dX10_disc_59 (by decide) ?_
          refine lv_icmp_ne (tgt := 87) hx hb dX10_disc_60 (by decide) (fun c_60 => ?_) (fun c_60 => ?_)
          · rw [hcx] at c_60
            refine lv_bipush (v := (-4)) hx hb dX10_disc_87 (by decide) ?_
            exact m_reti hx hb hr hlocks hAe hK hP hD hS rfl dX10_disc_89 (by rw [spDisc, if_pos (by simp [b4, b14]), hsk, if_pos (by simp [c_26, hj, c_60])])
          · rw [hcx] at c_60
            refine lv_aload_n hx hb dX10_disc_63 rfl (lv_at hl 1 rfl) ?_
            refine mg_isStruck hx hb hts hin hown hK hP (by decide +kernel) dX10_disc_64 ?_
            refine lv_bipush (v := 25) hx hb dX10_disc_67 (by decide) ?_
            refine lv_iload_n hx hb dX10_disc_69 rfl (lv_at hl 2 rfl) ?_
            refine lv_imul hx hb dX10_disc_70 ?_
            refine lv_iload hx hb dX10_disc_71 (lv_at hl 0 rfl) ?_
            refine lv_iadd hx hb dX10_disc_73 ?_
            rw [hix]
            refine ml_isStruck hx hb hK hP (hixi) dX10_disc_74 ?_
            refine lv_if_ne (tgt := 87) hx hb dX10_disc_75 (by decide) (fun c_75 => ?_) (fun c_75 => ?_)
            · rw [hcx] at c_75
              refine lv_bipush (v := (-4)) hx hb dX10_disc_87 (by decide) ?_
              exact m_reti hx hb hr hlocks hAe hK hP hD hS rfl dX10_disc_89 (by rw [spDisc, if_pos (by simp [b4, b14]), hsk, if_pos (by simp [c_26, hj, c_60, c_75])])
            · rw [hcx] at c_75
              refine lv_aload_n hx hb dX10_disc_78 rfl (lv_at hl 1 rfl) ?_
              refine mg_isHeard hx hb hts hin hown hK hP (by decide +kernel) dX10_disc_79 ?_
              refine lv_iload_n hx hb dX10_disc_82 rfl (lv_at hl 2 rfl) ?_
              refine ml_isHeard hx hb hK hP (hik) dX10_disc_83 ?_
              refine lv_if_eq (tgt := 90) hx hb dX10_disc_84 (by decide) (fun c_84 => ?_) (fun c_84 => ?_)
              · rw [hck] at c_84
                refine lv_aload_n hx hb dX10_disc_90 rfl (lv_at hl 1 rfl) ?_
                refine mg_discs hx hb hts hin hown hK hP (by decide +kernel) dX10_disc_91 ?_
                refine lv_bipush (v := 25) hx hb dX10_disc_94 (by decide) ?_
                refine lv_iload_n hx hb dX10_disc_96 rfl (lv_at hl 2 rfl) ?_
                refine lv_imul hx hb dX10_disc_97 ?_
                refine lv_iload hx hb dX10_disc_98 (lv_at hl 0 rfl) ?_
                refine lv_iadd hx hb dX10_disc_100 ?_
                refine lv_iload_n hx hb dX10_disc_101 rfl (lv_at hl 4 rfl) ?_
                rw [hix]
                refine ms_discs hx hb hK hP hD hS (hixi) dX10_disc_102 (fun H locs hP hD hS => ?_)
                rw [hcx] at hP hD
                refine lv_aload_n hx hb dX10_disc_103 rfl (lv_at hl 1 rfl) ?_
                refine lv_iload_n hx hb dX10_disc_104 rfl (lv_at hl 2 rfl) ?_
                refine lv_iconst (v := 2) hx hb dX10_disc_105 (by decide) ?_
                refine m_callip (As := [.int k, .int 2]) (rest := []) ⟨hx, hb, hml, hown, hts⟩ (etk ▸ ctX10_discsOf l D y h a (mrU v 34 (25 * kk + dSeat ns v kk q) d) kk 2 (ns kk) hk5 hsn hn25) (cwV 2 hts gX10_disc_X10_discsOf rfl rfl rfl (by decide +kernel) ⟨Nat.le_of_ble_eq_true rfl, Nat.le_of_ble_eq_true rfl⟩) hK hP hD hS hA rfl hl.1 rfl (Nat.le_of_ble_eq_true rfl) dX10_disc_106 ⟨Nat.zero_le _, Nat.zero_le _⟩ (fun H locs hP hD hS => ?_)
                exact m_reti hx hb hr hlocks hAe hK hP hD hS rfl dX10_disc_109 (by rw [spDisc, if_pos (by simp [b4, b14]), hsk, if_neg (by simp [c_26, hj, c_60, c_75, c_84])])
              · rw [hck] at c_84
                refine lv_bipush (v := (-4)) hx hb dX10_disc_87 (by decide) ?_
                exact m_reti hx hb hr hlocks hAe hK hP hD hS rfl dX10_disc_89 (by rw [spDisc, if_pos (by simp [b4, b14]), hsk, if_pos (by simp [c_26, hj, c_60, c_75, c_84])])
    · rw [mIn_R] at c_14
      have b14 : inR 0 1 d = false := (zI_eq _).mp c_14
      refine lv_bipush (v := (-2)) hx hb dX10_disc_17 (by decide) ?_
      exact m_reti hx hb hr hlocks hAe hK hP hD hS rfl dX10_disc_19 (by rw [spDisc, if_neg (by simp [b4, b14])])
def mCame (v : mS) (i : Nat) : Bool := !decide (v.2.1 22 i = -1)
def spCount (n : Nat) (v : mS) (w : Int32) : Int32 := if w = 0 then v.1 15 else if w = 1 then v.1 14 else if w = 2 then nI (cnt (mCame v) n) else if w = 3 then v.1 27 else if w = 4 then v.1 28 else if w = 5 then v.1 12 else if w = 6 then v.1 1 else if w = 7 then v.1 48 else if w = 8 then v.1 49 else -1
set_option maxHeartbeats 4000000 in
set_option maxRecDepth 100000 in
/-- count(w) -/
theorem ctX10_count (l : Launch) (D : va_G) (y : Nat → ClassId) (h : Nat) (a : Nat → Nat) (v : mS) (w : Int32) (n : Nat) (hn : v.1 15 = nI n) (hn1 : n ≤ 150) : mMi l yX10_count wsX10_count ({ frames := 0, cells := 0, slots := 0, locals := 0 }) D y h a v [.ref h, .int w] (fun r v' => r = spCount n v w ∧ v' = v) := by
  refine mMi_of (cc := cX10_count) (maxL := 4) (ret := (some .int)) rfl rfl (Nat.le_of_ble_eq_true rfl) ?_
  intro p e s m below meth c A ls hat hAe hl
  obtain ⟨hx, hb, hr, hml, hts, hown, hlocks, hK, hP, hD, hA⟩ := hat
  have hin : ∀ w ∈ wsX100, w ∈ wsX10_count := fun _ h9 => List.mem_cons_of_mem _ (List.mem_append_right _ h9)
  have hl : lv_has ls 4 [(0, .ref h), (1, .int w)] := hl
  have hS : va_S A s.heap s.heap [] := va_S.rf
  refine lv_iconst (v := 0) hx hb dX10_count_0 (by decide) ?_
  refine lv_istore_n (lv' := [(2, .int 0), (0, .ref h), (1, .int w)]) hx hb dX10_count_1 rfl hl (by decide) rfl (fun ls hl => ?_)
  refine lv_iload_n hx hb dX10_count_2 rfl (lv_at hl 2 rfl) ?_
  refine lv_topi (fun sw_3 esw_3 => ?_)
  by_cases w0_3 : sw_3 = 0
  · subst w0_3
    refine lv_tableIn (tgt := 52) hx hb dX10_count_3 (by decide) (by decide) rfl (by decide) ?_
    refine lv_aload_n hx hb dX10_count_52 rfl (lv_at hl 1 rfl) ?_
    refine mg_citizens hx hb hts hin hown hK hP (by decide +kernel) dX10_count_53 ?_
    exact m_reti hx hb hr hlocks hAe hK hP hD hS rfl dX10_count_56 (⟨by simp [spCount, ← esw_3], rfl⟩)
  by_cases w1_3 : sw_3 = 1
  · subst w1_3
    refine lv_tableIn (tgt := 57) hx hb dX10_count_3 (by decide) (by decide) rfl (by decide) ?_
    refine lv_aload_n hx hb dX10_count_57 rfl (lv_at hl 1 rfl) ?_
    refine mg_clock hx hb hts hin hown hK hP (by decide +kernel) dX10_count_58 ?_
    exact m_reti hx hb hr hlocks hAe hK hP hD hS rfl dX10_count_61 (⟨by simp [spCount, ← esw_3], rfl⟩)
  by_cases w2_3 : sw_3 = 2
  · subst w2_3
    refine lv_tableIn (tgt := 62) hx hb dX10_count_3 (by decide) (by decide) rfl (by decide) ?_
    refine lv_iconst (v := 0) hx hb dX10_count_62 (by decide) ?_
    refine lv_istore_n (lv' := [(3, .int 0), (2, .int 0), (0, .ref h), (1, .int w)]) hx hb dX10_count_63 rfl hl (by decide) rfl (fun ls hl => ?_)
    have lp_64 : ∀ (n_64 : Nat) (k : Nat) (x2 : Int32) (x3 : Int32), (k ≤ n) → (n + 1 ≤ k + n_64) → (x3 = nI k) → (x2 = nI (cnt (mCame v) k)) → ∀ (H : Heap) (locs : List Loc), va_P D vwCl (mW h a y v) H → va_D A (mW h a y v) → va_S A s.heap H locs → ∀ (ls : Array Slot), lv_has ls 4 [(0, .ref h), (1, .int w), (2, .int x2), (3, .int x3)] → W p l e (headSpec wsX10_count ({ frames := 0, cells := 0, slots := 0, locals := 0 })).room s m ([.ref h, .int w] : List Value).toArray below meth c H locs 0 0 (MQ below (va_Qi (fun r v' => r = spCount n v w ∧ v' = v) (mEnd D y h a s.heap.size) A) ([.ref h, .int w] : List Value).toArray s 0 0 A) (F0 m 64 ls []) := by
      intro n_64
      induction n_64 with
      | zero =>
        intro k x2 x3 hk hf ex3 ex2
        exact absurd hf (by omega)
      | succ n_64 ih_64 =>
        intro k x2 x3 hk hf ex3 ex2 H locs hP hD hS ls hl
        refine lv_iload_n hx hb dX10_count_64 rfl (lv_at hl 3 rfl) ?_
        refine lv_aload_n hx hb dX10_count_65 rfl (lv_at hl 0 rfl) ?_
        refine mg_citizens hx hb hts hin hown hK hP (by decide +kernel) dX10_count_66 ?_
        refine lv_icmp_ge (tgt := 96) hx hb dX10_count_69 (by decide) (fun c_69 => ?_) (fun c_69 => ?_)
        · rw [hn, ex3] at c_69
          have hkn : k = n := by have := (nI_leI (by omega) (by omega)).mp c_69; omega
          refine lv_iload_n hx hb dX10_count_96 rfl (lv_at hl 2 rfl) ?_
          exact m_reti hx hb hr hlocks hAe hK hP hD hS rfl dX10_count_97 (⟨by rw [ex2, hkn]; simp [spCount, ← esw_3], rfl⟩)
        · rw [hn, ex3] at c_69
          have hkn : k < n := Nat.not_le.mp (fun q => c_69 (nI_le q (by omega)))
          have hc : x3.toNatClampNeg = k := by rw [ex3]; exact nI_clamp (by omega)
          have hi : vp_in x3 150 := by rw [ex3]; exact vp_in_nI (by omega) (by omega)
          refine lv_iload_n hx hb dX10_count_72 rfl (lv_at hl 2 rfl) ?_
          refine lv_aload_n hx hb dX10_count_73 rfl (lv_at hl 0 rfl) ?_
          refine mg_place hx hb hts hin hown hK hP (by decide +kernel) dX10_count_74 ?_
          refine lv_iload_n hx hb dX10_count_77 rfl (lv_at hl 3 rfl) ?_
          refine ml_place hx hb hK hP (hi) dX10_count_78 ?_
          refine lv_iconst (v := (-1)) hx hb dX10_count_79 (by decide) ?_
          refine lv_icmp_eq (tgt := 87) hx hb dX10_count_80 (by decide) (fun c_80 => ?_) (fun c_80 => ?_)
          · rw [hc] at c_80
            refine lv_iconst (v := 0) hx hb dX10_count_87 (by decide) ?_
            refine lv_iadd hx hb dX10_count_88 ?_
            refine lv_topi (fun x2_1 ex2_1 => ?_)
            refine lv_istore_n (lv' := [(2, .int x2_1), (0, .ref h), (1, .int w), (3, .int x3)]) hx hb dX10_count_89 rfl hl (by decide) rfl (fun ls hl => ?_)
            obtain ⟨x3_2, ex3_2⟩ : ∃ z : Int32, z = x3 + 1 := ⟨_, rfl⟩
            refine lv_iinc (v := x3_2) (lv' := [(3, .int x3_2), (2, .int x2_1), (0, .ref h), (1, .int w)]) hx hb dX10_count_90 hl (k := 3) rfl (by rw [ex3_2]; rfl) (by decide) rfl (fun ls hl => ?_)
            refine lv_goto (tgt := 64) hx hb dX10_count_93 (by decide) ?_
            exact ih_64 (k + 1) _ _ (by omega) (by omega) (by rw [ex3_2, ex3]; exact nI_1 k) (by rw [ex2_1, ex2]; first | exact cnt_t (by simp [mCame, c_80]) | exact cnt_f (by simp [mCame, c_80])) _ _ hP hD hS _ (lv_sub hl [2, 3, 1, 0] rfl)
          · rw [hc] at c_80
            refine lv_iconst (v := 1) hx hb dX10_count_83 (by decide) ?_
            refine lv_goto (tgt := 88) hx hb dX10_count_84 (by decide) ?_
            refine lv_iadd hx hb dX10_count_88 ?_
            refine lv_topi (fun x2_3 ex2_3 => ?_)
            refine lv_istore_n (lv' := [(2, .int x2_3), (0, .ref h), (1, .int w), (3, .int x3)]) hx hb dX10_count_89 rfl hl (by decide) rfl (fun ls hl => ?_)
            obtain ⟨x3_4, ex3_4⟩ : ∃ z : Int32, z = x3 + 1 := ⟨_, rfl⟩
            refine lv_iinc (v := x3_4) (lv' := [(3, .int x3_4), (2, .int x2_3), (0, .ref h), (1, .int w)]) hx hb dX10_count_90 hl (k := 3) rfl (by rw [ex3_4]; rfl) (by decide) rfl (fun ls hl => ?_)
            refine lv_goto (tgt := 64) hx hb dX10_count_93 (by decide) ?_
            exact ih_64 (k + 1) _ _ (by omega) (by omega) (by rw [ex3_4, ex3]; exact nI_1 k) (by rw [ex2_3, ex2]; first | exact cnt_t (by simp [mCame, c_80]) | exact cnt_f (by simp [mCame, c_80])) _ _ hP hD hS _ (lv_sub hl [2, 3, 1, 0] rfl)
    exact lp_64 (n + 1) 0 _ _ (Nat.zero_le _) (by omega) rfl rfl _ _ hP hD hS _ (lv_sub hl [2, 3, 1, 0] rfl)
  by_cases w3_3 : sw_3 = 3
  · subst w3_3
    refine lv_tableIn (tgt := 98) hx hb dX10_count_3 (by decide) (by decide) rfl (by decide) ?_
    refine lv_aload_n hx hb dX10_count_98 rfl (lv_at hl 1 rfl) ?_
    refine mg_chosenMany hx hb hts hin hown hK hP (by decide +kernel) dX10_count_99 ?_
    exact m_reti hx hb hr hlocks hAe hK hP hD hS rfl dX10_count_102 (⟨by simp [spCount, ← esw_3], rfl⟩)
  by_cases w4_3 : sw_3 = 4
  · subst w4_3
    refine lv_tableIn (tgt := 103) hx hb dX10_count_3 (by decide) (by decide) rfl (by decide) ?_
    refine lv_aload_n hx hb dX10_count_103 rfl (lv_at hl 1 rfl) ?_
    refine mg_lots hx hb hts hin hown hK hP (by decide +kernel) dX10_count_104 ?_
    exact m_reti hx hb hr hlocks hAe hK hP hD hS rfl dX10_count_107 (⟨by simp [spCount, ← esw_3], rfl⟩)
  by_cases w5_3 : sw_3 = 5
  · subst w5_3
    refine lv_tableIn (tgt := 108) hx hb dX10_count_3 (by decide) (by decide) rfl (by decide) ?_
    refine lv_aload_n hx hb dX10_count_108 rfl (lv_at hl 1 rfl) ?_
    refine mg_texts hx hb hts hin hown hK hP (by decide +kernel) dX10_count_109 ?_
    exact m_reti hx hb hr hlocks hAe hK hP hD hS rfl dX10_count_112 (⟨by simp [spCount, ← esw_3], rfl⟩)
  by_cases w6_3 : sw_3 = 6
  · subst w6_3
    refine lv_tableIn (tgt := 113) hx hb dX10_count_3 (by decide) (by decide) rfl (by decide) ?_
    refine lv_aload_n hx hb dX10_count_113 rfl (lv_at hl 1 rfl) ?_
    refine mg_taped hx hb hts hin hown hK hP (by decide +kernel) dX10_count_114 ?_
    exact m_reti hx hb hr hlocks hAe hK hP hD hS rfl dX10_count_117 (⟨by simp [spCount, ← esw_3], rfl⟩)
  by_cases w7_3 : sw_3 = 7
  · subst w7_3
    refine lv_tableIn (tgt := 118) hx hb dX10_count_3 (by decide) (by decide) rfl (by decide) ?_
    refine lv_aload_n hx hb dX10_count_118 rfl (lv_at hl 1 rfl) ?_
    refine mg_closed hx hb hts hin hown hK hP (by decide +kernel) dX10_count_119 ?_
    exact m_reti hx hb hr hlocks hAe hK hP hD hS rfl dX10_count_122 (⟨by simp [spCount, ← esw_3], rfl⟩)
  by_cases w8_3 : sw_3 = 8
  · subst w8_3
    refine lv_tableIn (tgt := 123) hx hb dX10_count_3 (by decide) (by decide) rfl (by decide) ?_
    refine lv_aload_n hx hb dX10_count_123 rfl (lv_at hl 1 rfl) ?_
    refine mg_paidAll hx hb hts hin hown hK hP (by decide +kernel) dX10_count_124 ?_
    exact m_reti hx hb hr hlocks hAe hK hP hD hS rfl dX10_count_127 (⟨by simp [spCount, ← esw_3], rfl⟩)
  refine lv_tableOut (tgt := 128) hx hb dX10_count_3 (by have q0 := tI sw_3 0 0 rfl w0_3; have q1 := tI sw_3 1 1 rfl w1_3; have q2 := tI sw_3 2 2 rfl w2_3; have q3 := tI sw_3 3 3 rfl w3_3; have q4 := tI sw_3 4 4 rfl w4_3; have q5 := tI sw_3 5 5 rfl w5_3; have q6 := tI sw_3 6 6 rfl w6_3; have q7 := tI sw_3 7 7 rfl w7_3; have q8 := tI sw_3 8 8 rfl w8_3; omega) (by decide) ?_
  refine lv_iconst (v := (-1)) hx hb dX10_count_128 (by decide) ?_
  exact m_reti hx hb hr hlocks hAe hK hP hD hS rfl dX10_count_129 (⟨by simp only [spCount, w0_3, w1_3, w2_3, w3_3, w4_3, w5_3, w6_3, w7_3, w8_3, if_false, ← esw_3], rfl⟩)
def spCourt (ns : Nat → Nat) (v : mS) (k w : Int32) : Int32 := if isK k then (if w = 0 then v.2.1 31 (sI k) else if w = 1 then v.2.1 32 (sI k) else if w = 2 then (if v.2.1 36 (sI k) = 0 then 0 else 1) else if v.2.1 37 (sI k) = 0 then -1 else if w = 3 then v.2.1 38 (sI k) else if w = 4 then v.2.1 39 (sI k) else if w = 5 then v.2.1 40 (sI k) else if w = 6 then v.2.1 41 (sI k) else if w = 7 then v.2.1 42 (2 * sI k + 0) else if w = 8 then v.2.1 42 (2 * sI k + 1) else if w = 9 then nI (mDiscs v (sI k) 0 (ns (sI k))) else if w = 10 then (if ¬ v.2.1 36 (sI k) = 0 ∧ 0 < mDiscs v (sI k) 2 (ns (sI k)) then -1 else nI (mDiscs v (sI k) 1 (ns (sI k)))) else if w = 11 then nI (mDiscs v (sI k) 3 (ns (sI k))) else if w = 12 then v.2.1 45 (sI k) else if w = 13 then v.2.1 46 (sI k) else if w = 14 then v.2.1 47 (sI k) else -1) else -1
set_option maxHeartbeats 4000000 in
set_option maxRecDepth 100000 in
/-- court(k, w) -/
theorem ctX10_court (l : Launch) (D : va_G) (y : Nat → ClassId) (h : Nat) (a : Nat → Nat) (v : mS) (k w : Int32) (ns : Nat → Nat) (hns : ∀ k, k < 5 → v.2.1 32 k = nI (ns k) ∧ ns k ≤ 25) : mMi l yX10_court wsX10_court ({ frames := 2, cells := 0, slots := 0, locals := 45 }) D y h a v [.ref h, .int k, .int w] (fun r v' => r = spCourt ns v k w ∧ v' = v) := by
  refine mMi_of (cc := cX10_court) (maxL := 3) (ret := (some .int)) rfl rfl (Nat.le_of_ble_eq_true rfl) ?_
  intro p e s m below meth c A ls hat hAe hl
  obtain ⟨hx, hb, hr, hml, hts, hown, hlocks, hK, hP, hD, hA⟩ := hat
  have hin : ∀ w ∈ wsX100, w ∈ wsX10_court := fun _ h9 => List.mem_cons_of_mem _ (List.mem_append_right _ h9)
  have hl : lv_has ls 3 [(0, .ref h), (1, .int k), (2, .int w)] := hl
  have hS : va_S A s.heap s.heap [] := va_S.rf
  refine lv_iload_n hx hb dX10_court_0 rfl (lv_at hl 1 rfl) ?_
  refine s_calli (As := [.int k]) (rest := []) ⟨hx, hb, hml, hown, hts⟩ (ctX10_isCourt l k) (cwS 1 hts gX10_court_X10_isCourt rfl rfl rfl (by decide +kernel) ⟨Nat.le_of_ble_eq_true rfl, Nat.le_of_ble_eq_true rfl⟩) hP hS rfl hl.1 rfl (Nat.le_of_ble_eq_true rfl) dX10_court_1 ⟨Nat.zero_le _, Nat.zero_le _⟩ (fun H locs hP hS => ?_)
  refine lv_if_ne (tgt := 9) hx hb dX10_court_4 (by decide) (fun c_4 => ?_) (fun c_4 => ?_)
  · have b4 : isK k = true := (zI_ne _).mp c_4
    obtain ⟨kk, hk5, etk⟩ := (inR_k 5 (hi := 4) rfl (by omega)).mp b4
    have hck : k.toNatClampNeg = kk := by rw [etk]; exact nI_clamp (by omega)
    have hik : vp_in k 5 := by rw [etk]; exact vp_in_nI hk5 (by omega)
    obtain ⟨hsn, hn25⟩ := hns kk hk5
    have hsk : sI k = kk := hck
    refine lv_iload_n hx hb dX10_court_9 rfl (lv_at hl 2 rfl) ?_
    refine lv_if_ne (tgt := 20) hx hb dX10_court_10 (by decide) (fun c_10 => ?_) (fun c_10 => ?_)
    · refine lv_iload_n hx hb dX10_court_20 rfl (lv_at hl 2 rfl) ?_
      refine lv_iconst (v := 1) hx hb dX10_court_21 (by decide) ?_
      refine lv_icmp_ne (tgt := 32) hx hb dX10_court_22 (by decide) (fun c_22 => ?_) (fun c_22 => ?_)
      · refine lv_iload_n hx hb dX10_court_32 rfl (lv_at hl 2 rfl) ?_
        refine lv_iconst (v := 2) hx hb dX10_court_33 (by decide) ?_
        refine lv_icmp_ne (tgt := 52) hx hb dX10_court_34 (by decide) (fun c_34 => ?_) (fun c_34 => ?_)
        · refine lv_aload_n hx hb dX10_court_52 rfl (lv_at hl 0 rfl) ?_
          refine mg_hasSuit hx hb hts hin hown hK hP (by decide +kernel) dX10_court_53 ?_
          refine lv_iload_n hx hb dX10_court_56 rfl (lv_at hl 1 rfl) ?_
          refine ml_hasSuit hx hb hK hP (hik) dX10_court_57 ?_
          refine lv_if_ne (tgt := 63) hx hb dX10_court_58 (by decide) (fun c_58 => ?_) (fun c_58 => ?_)
          · rw [hck] at c_58
            refine lv_iload_n hx hb dX10_court_63 rfl (lv_at hl 2 rfl) ?_
            refine lv_topi (fun sw_64 esw_64 => ?_)
            by_cases w3_64 : sw_64 = 3
            · subst w3_64
              refine lv_tableIn (tgt := 128) hx hb dX10_court_64 (by decide) (by decide) rfl (by decide) ?_
              refine lv_aload_n hx hb dX10_court_128 rfl (lv_at hl 0 rfl) ?_
              refine mg_kind hx hb hts hin hown hK hP (by decide +kernel) dX10_court_129 ?_
              refine lv_iload_n hx hb dX10_court_132 rfl (lv_at hl 1 rfl) ?_
              refine ml_kind hx hb hK hP (hik) dX10_court_133 ?_
              exact m_reti hx hb hr hlocks hAe hK hP hD hS rfl dX10_court_134 (⟨by rw [spCourt, if_pos b4, hsk]; simp [c_58, ← esw_64, hck], rfl⟩)
            by_cases w4_64 : sw_64 = 4
            · subst w4_64
              refine lv_tableIn (tgt := 135) hx hb dX10_court_64 (by decide) (by decide) rfl (by decide) ?_
              refine lv_aload_n hx hb dX10_court_135 rfl (lv_at hl 0 rfl) ?_
              refine mg_accuser hx hb hts hin hown hK hP (by decide +kernel) dX10_court_136 ?_
              refine lv_iload_n hx hb dX10_court_139 rfl (lv_at hl 1 rfl) ?_
              refine ml_accuser hx hb hK hP (hik) dX10_court_140 ?_
              exact m_reti hx hb hr hlocks hAe hK hP hD hS rfl dX10_court_141 (⟨by rw [spCourt, if_pos b4, hsk]; simp [c_58, ← esw_64, hck], rfl⟩)
            by_cases w5_64 : sw_64 = 5
            · subst w5_64
              refine lv_tableIn (tgt := 142) hx hb dX10_court_64 (by decide) (by decide) rfl (by decide) ?_
              refine lv_aload_n hx hb dX10_court_142 rfl (lv_at hl 0 rfl) ?_
              refine mg_accused hx hb hts hin hown hK hP (by decide +kernel) dX10_court_143 ?_
              refine lv_iload_n hx hb dX10_court_146 rfl (lv_at hl 1 rfl) ?_
              refine ml_accused hx hb hK hP (hik) dX10_court_147 ?_
              exact m_reti hx hb hr hlocks hAe hK hP hD hS rfl dX10_court_148 (⟨by rw [spCourt, if_pos b4, hsk]; simp [c_58, ← esw_64, hck], rfl⟩)
            by_cases w6_64 : sw_64 = 6
            · subst w6_64
              refine lv_tableIn (tgt := 149) hx hb dX10_court_64 (by decide) (by decide) rfl (by decide) ?_
              refine lv_aload_n hx hb dX10_court_149 rfl (lv_at hl 0 rfl) ?_
              refine mg_sum hx hb hts hin hown hK hP (by decide +kernel) dX10_court_150 ?_
              refine lv_iload_n hx hb dX10_court_153 rfl (lv_at hl 1 rfl) ?_
              refine ml_sum hx hb hK hP (hik) dX10_court_154 ?_
              exact m_reti hx hb hr hlocks hAe hK hP hD hS rfl dX10_court_155 (⟨by rw [spCourt, if_pos b4, hsk]; simp [c_58, ← esw_64, hck], rfl⟩)
            by_cases w7_64 : sw_64 = 7
            · subst w7_64
              refine lv_tableIn (tgt := 156) hx hb dX10_court_64 (by decide) (by decide) rfl (by decide) ?_
              have hix : (2 : Int32) * k + w - 7 = nI (2 * kk + 0) := by rw [← esw_64, etk, show (7 : Int32) = nI 7 from rfl, ix2, pk_sub (by omega)]; rfl
              refine lv_aload_n hx hb dX10_court_156 rfl (lv_at hl 0 rfl) ?_
              refine mg_water hx hb hts hin hown hK hP (by decide +kernel) dX10_court_157 ?_
              refine lv_iconst (v := 2) hx hb dX10_court_160 (by decide) ?_
              refine lv_iload_n hx hb dX10_court_161 rfl (lv_at hl 1 rfl) ?_
              refine lv_imul hx hb dX10_court_162 ?_
              refine lv_iload_n hx hb dX10_court_163 rfl (lv_at hl 2 rfl) ?_
              refine lv_iadd hx hb dX10_court_164 ?_
              refine lv_bipush (v := 7) hx hb dX10_court_165 (by decide) ?_
              refine lv_isub hx hb dX10_court_167 ?_
              rw [hix]
              refine ml_water hx hb hK hP (vp_in_nI (by omega) (by omega)) dX10_court_168 ?_
              exact m_reti hx hb hr hlocks hAe hK hP hD hS rfl dX10_court_169 (⟨by rw [spCourt, if_pos b4, hsk, nI_clamp (by omega)]; simp [c_58, ← esw_64], rfl⟩)
            by_cases w8_64 : sw_64 = 8
            · subst w8_64
              refine lv_tableIn (tgt := 156) hx hb dX10_court_64 (by decide) (by decide) rfl (by decide) ?_
              have hix : (2 : Int32) * k + w - 7 = nI (2 * kk + 1) := by rw [← esw_64, etk, show (7 : Int32) = nI 7 from rfl, show (8 : Int32) = nI 8 from rfl, ix2, pk_sub (by omega)]; rfl
              refine lv_aload_n hx hb dX10_court_156 rfl (lv_at hl 0 rfl) ?_
              refine mg_water hx hb hts hin hown hK hP (by decide +kernel) dX10_court_157 ?_
              refine lv_iconst (v := 2) hx hb dX10_court_160 (by decide) ?_
              refine lv_iload_n hx hb dX10_court_161 rfl (lv_at hl 1 rfl) ?_
              refine lv_imul hx hb dX10_court_162 ?_
              refine lv_iload_n hx hb dX10_court_163 rfl (lv_at hl 2 rfl) ?_
              refine lv_iadd hx hb dX10_court_164 ?_
              refine lv_bipush (v := 7) hx hb dX10_court_165 (by decide) ?_
              refine lv_isub hx hb dX10_court_167 ?_
              rw [hix]
              refine ml_water hx hb hK hP (vp_in_nI (by omega) (by omega)) dX10_court_168 ?_
              exact m_reti hx hb hr hlocks hAe hK hP hD hS rfl dX10_court_169 (⟨by rw [spCourt, if_pos b4, hsk, nI_clamp (by omega)]; simp [c_58, ← esw_64], rfl⟩)
            by_cases w9_64 : sw_64 = 9
            · subst w9_64
              refine lv_tableIn (tgt := 170) hx hb dX10_court_64 (by decide) (by decide) rfl (by decide) ?_
              refine lv_aload_n hx hb dX10_court_170 rfl (lv_at hl 0 rfl) ?_
              refine lv_iload_n hx hb dX10_court_171 rfl (lv_at hl 1 rfl) ?_
              refine lv_iconst (v := 0) hx hb dX10_court_172 (by decide) ?_
              refine m_callip (As := [.int k, .int 0]) (rest := []) ⟨hx, hb, hml, hown, hts⟩ (etk ▸ ctX10_discsOf l D y h a v kk 0 (ns kk) hk5 hsn hn25) (cwV 2 hts gX10_court_X10_discsOf rfl rfl rfl (by decide +kernel) ⟨Nat.le_of_ble_eq_true rfl, Nat.le_of_ble_eq_true rfl⟩) hK hP hD hS hA rfl hl.1 rfl (Nat.le_of_ble_eq_true rfl) dX10_court_173 ⟨Nat.zero_le _, Nat.zero_le _⟩ (fun H locs hP hD hS => ?_)
              exact m_reti hx hb hr hlocks hAe hK hP hD hS rfl dX10_court_176 (⟨by rw [spCourt, if_pos b4, hsk]; simp [c_58, ← esw_64, hck], rfl⟩)
            by_cases w10_64 : sw_64 = 10
            · subst w10_64
              refine lv_tableIn (tgt := 177) hx hb dX10_court_64 (by decide) (by decide) rfl (by decide) ?_
              refine lv_aload_n hx hb dX10_court_177 rfl (lv_at hl 0 rfl) ?_
              refine mg_isOpen hx hb hts hin hown hK hP (by decide +kernel) dX10_court_178 ?_
              refine lv_iload_n hx hb dX10_court_181 rfl (lv_at hl 1 rfl) ?_
              refine ml_isOpen hx hb hK hP (hik) dX10_court_182 ?_
              refine lv_if_eq (tgt := 199) hx hb dX10_court_183 (by decide) (fun c_183 => ?_) (fun c_183 => ?_)
              · rw [hck] at c_183
                refine lv_aload_n hx hb dX10_court_199 rfl (lv_at hl 0 rfl) ?_
                refine lv_iload_n hx hb dX10_court_200 rfl (lv_at hl 1 rfl) ?_
                refine lv_iconst (v := 1) hx hb dX10_court_201 (by decide) ?_
                refine m_callip (As := [.int k, .int 1]) (rest := []) ⟨hx, hb, hml, hown, hts⟩ (etk ▸ ctX10_discsOf l D y h a v kk 1 (ns kk) hk5 hsn hn25) (cwV 2 hts gX10_court_X10_discsOf rfl rfl rfl (by decide +kernel) ⟨Nat.le_of_ble_eq_true rfl, Nat.le_of_ble_eq_true rfl⟩) hK hP hD hS hA rfl hl.1 rfl (Nat.le_of_ble_eq_true rfl) dX10_court_202 ⟨Nat.zero_le _, Nat.zero_le _⟩ (fun H locs hP hD hS => ?_)
                exact m_reti hx hb hr hlocks hAe hK hP hD hS rfl dX10_court_205 (⟨by rw [spCourt, if_pos b4, hsk]; simp [c_58, ← esw_64, c_183], rfl⟩)
              · rw [hck] at c_183
                refine lv_aload_n hx hb dX10_court_186 rfl (lv_at hl 0 rfl) ?_
                refine lv_iload_n hx hb dX10_court_187 rfl (lv_at hl 1 rfl) ?_
                refine lv_iconst (v := 2) hx hb dX10_court_188 (by decide) ?_
                refine m_callip (As := [.int k, .int 2]) (rest := []) ⟨hx, hb, hml, hown, hts⟩ (etk ▸ ctX10_discsOf l D y h a v kk 2 (ns kk) hk5 hsn hn25) (cwV 2 hts gX10_court_X10_discsOf rfl rfl rfl (by decide +kernel) ⟨Nat.le_of_ble_eq_true rfl, Nat.le_of_ble_eq_true rfl⟩) hK hP hD hS hA rfl hl.1 rfl (Nat.le_of_ble_eq_true rfl) dX10_court_189 ⟨Nat.zero_le _, Nat.zero_le _⟩ (fun H locs hP hD hS => ?_)
                refine lv_if_le (tgt := 199) hx hb dX10_court_192 (by decide) (fun c_192 => ?_) (fun c_192 => ?_)
                · have h192 : ¬ 0 < mDiscs v kk 2 (ns kk) := by have := cnt_le (fun i => dIs v 2 (25 * kk + i)) (ns kk); have h9 := (nI_leI (b := 0) (by unfold mDiscs; omega) (by omega)).mp c_192; omega
                  refine lv_aload_n hx hb dX10_court_199 rfl (lv_at hl 0 rfl) ?_
                  refine lv_iload_n hx hb dX10_court_200 rfl (lv_at hl 1 rfl) ?_
                  refine lv_iconst (v := 1) hx hb dX10_court_201 (by decide) ?_
                  refine m_callip (As := [.int k, .int 1]) (rest := []) ⟨hx, hb, hml, hown, hts⟩ (etk ▸ ctX10_discsOf l D y h a v kk 1 (ns kk) hk5 hsn hn25) (cwV 2 hts gX10_court_X10_discsOf rfl rfl rfl (by decide +kernel) ⟨Nat.le_of_ble_eq_true rfl, Nat.le_of_ble_eq_true rfl⟩) hK hP hD hS hA rfl hl.1 rfl (Nat.le_of_ble_eq_true rfl) dX10_court_202 ⟨Nat.zero_le _, Nat.zero_le _⟩ (fun H locs hP hD hS => ?_)
                  exact m_reti hx hb hr hlocks hAe hK hP hD hS rfl dX10_court_205 (⟨by rw [spCourt, if_pos b4, hsk]; simp [c_58, ← esw_64, c_183, h192], rfl⟩)
                · have h192 : 0 < mDiscs v kk 2 (ns kk) := by have := cnt_le (fun i => dIs v 2 (25 * kk + i)) (ns kk); exact Nat.not_le.mp (fun q => c_192 (nI_le (b := 0) q (by omega)))
                  refine lv_iconst (v := (-1)) hx hb dX10_court_195 (by decide) ?_
                  refine lv_goto (tgt := 205) hx hb dX10_court_196 (by decide) ?_
                  exact m_reti hx hb hr hlocks hAe hK hP hD hS rfl dX10_court_205 (⟨by rw [spCourt, if_pos b4, hsk]; simp [c_58, ← esw_64, c_183, h192], rfl⟩)
            by_cases w11_64 : sw_64 = 11
            · subst w11_64
              refine lv_tableIn (tgt := 206) hx hb dX10_court_64 (by decide) (by decide) rfl (by decide) ?_
              refine lv_aload_n hx hb dX10_court_206 rfl (lv_at hl 0 rfl) ?_
              refine lv_iload_n hx hb dX10_court_207 rfl (lv_at hl 1 rfl) ?_
              refine lv_iconst (v := 3) hx hb dX10_court_208 (by decide) ?_
              refine m_callip (As := [.int k, .int 3]) (rest := []) ⟨hx, hb, hml, hown, hts⟩ (etk ▸ ctX10_discsOf l D y h a v kk 3 (ns kk) hk5 hsn hn25) (cwV 2 hts gX10_court_X10_discsOf rfl rfl rfl (by decide +kernel) ⟨Nat.le_of_ble_eq_true rfl, Nat.le_of_ble_eq_true rfl⟩) hK hP hD hS hA rfl hl.1 rfl (Nat.le_of_ble_eq_true rfl) dX10_court_209 ⟨Nat.zero_le _, Nat.zero_le _⟩ (fun H locs hP hD hS => ?_)
              exact m_reti hx hb hr hlocks hAe hK hP hD hS rfl dX10_court_212 (⟨by rw [spCourt, if_pos b4, hsk]; simp [c_58, ← esw_64, hck], rfl⟩)
            by_cases w12_64 : sw_64 = 12
            · subst w12_64
              refine lv_tableIn (tgt := 213) hx hb dX10_court_64 (by decide) (by decide) rfl (by decide) ?_
              refine lv_aload_n hx hb dX10_court_213 rfl (lv_at hl 0 rfl) ?_
              refine mg_verdict hx hb hts hin hown hK hP (by decide +kernel) dX10_court_214 ?_
              refine lv_iload_n hx hb dX10_court_217 rfl (lv_at hl 1 rfl) ?_
              refine ml_verdict hx hb hK hP (hik) dX10_court_218 ?_
              exact m_reti hx hb hr hlocks hAe hK hP hD hS rfl dX10_court_219 (⟨by rw [spCourt, if_pos b4, hsk]; simp [c_58, ← esw_64, hck], rfl⟩)
            by_cases w13_64 : sw_64 = 13
            · subst w13_64
              refine lv_tableIn (tgt := 220) hx hb dX10_court_64 (by decide) (by decide) rfl (by decide) ?_
              refine lv_aload_n hx hb dX10_court_220 rfl (lv_at hl 0 rfl) ?_
              refine mg_debtor hx hb hts hin hown hK hP (by decide +kernel) dX10_court_221 ?_
              refine lv_iload_n hx hb dX10_court_224 rfl (lv_at hl 1 rfl) ?_
              refine ml_debtor hx hb hK hP (hik) dX10_court_225 ?_
              exact m_reti hx hb hr hlocks hAe hK hP hD hS rfl dX10_court_226 (⟨by rw [spCourt, if_pos b4, hsk]; simp [c_58, ← esw_64, hck], rfl⟩)
            by_cases w14_64 : sw_64 = 14
            · subst w14_64
              refine lv_tableIn (tgt := 227) hx hb dX10_court_64 (by decide) (by decide) rfl (by decide) ?_
              refine lv_aload_n hx hb dX10_court_227 rfl (lv_at hl 0 rfl) ?_
              refine mg_debt hx hb hts hin hown hK hP (by decide +kernel) dX10_court_228 ?_
              refine lv_iload_n hx hb dX10_court_231 rfl (lv_at hl 1 rfl) ?_
              refine ml_debt hx hb hK hP (hik) dX10_court_232 ?_
              exact m_reti hx hb hr hlocks hAe hK hP hD hS rfl dX10_court_233 (⟨by rw [spCourt, if_pos b4, hsk]; simp [c_58, ← esw_64, hck], rfl⟩)
            refine lv_tableOut (tgt := 234) hx hb dX10_court_64 (by have q3 := tI sw_64 3 3 rfl w3_64; have q4 := tI sw_64 4 4 rfl w4_64; have q5 := tI sw_64 5 5 rfl w5_64; have q6 := tI sw_64 6 6 rfl w6_64; have q7 := tI sw_64 7 7 rfl w7_64; have q8 := tI sw_64 8 8 rfl w8_64; have q9 := tI sw_64 9 9 rfl w9_64; have q10 := tI sw_64 10 10 rfl w10_64; have q11 := tI sw_64 11 11 rfl w11_64; have q12 := tI sw_64 12 12 rfl w12_64; have q13 := tI sw_64 13 13 rfl w13_64; have q14 := tI sw_64 14 14 rfl w14_64; omega) (by decide) ?_
            refine lv_iconst (v := (-1)) hx hb dX10_court_234 (by decide) ?_
            exact m_reti hx hb hr hlocks hAe hK hP hD hS rfl dX10_court_235 (⟨by rw [spCourt, if_pos b4, hsk, if_neg c_10, if_neg c_22, if_neg c_34, if_neg c_58, ← esw_64]; simp only [if_false, w3_64, w4_64, w5_64, w6_64, w7_64, w8_64, w9_64, w10_64, w11_64, w12_64, w13_64, w14_64], rfl⟩)
          · rw [hck] at c_58
            refine lv_iconst (v := (-1)) hx hb dX10_court_61 (by decide) ?_
            exact m_reti hx hb hr hlocks hAe hK hP hD hS rfl dX10_court_62 (⟨by rw [spCourt, if_pos b4, hsk]; simp [c_10, c_22, c_34, c_58, sI, hck], rfl⟩)
        · refine lv_aload_n hx hb dX10_court_37 rfl (lv_at hl 0 rfl) ?_
          refine mg_isOpen hx hb hts hin hown hK hP (by decide +kernel) dX10_court_38 ?_
          refine lv_iload_n hx hb dX10_court_41 rfl (lv_at hl 1 rfl) ?_
          refine ml_isOpen hx hb hK hP (hik) dX10_court_42 ?_
          refine lv_if_eq (tgt := 50) hx hb dX10_court_43 (by decide) (fun c_43 => ?_) (fun c_43 => ?_)
          · rw [hck] at c_43
            refine lv_iconst (v := 0) hx hb dX10_court_50 (by decide) ?_
            exact m_reti hx hb hr hlocks hAe hK hP hD hS rfl dX10_court_51 (⟨by rw [spCourt, if_pos b4, hsk]; simp [c_10, c_22, c_34, c_43, sI, hck], rfl⟩)
          · rw [hck] at c_43
            refine lv_iconst (v := 1) hx hb dX10_court_46 (by decide) ?_
            refine lv_goto (tgt := 51) hx hb dX10_court_47 (by decide) ?_
            exact m_reti hx hb hr hlocks hAe hK hP hD hS rfl dX10_court_51 (⟨by rw [spCourt, if_pos b4, hsk]; simp [c_10, c_22, c_34, c_43, sI, hck], rfl⟩)
      · refine lv_aload_n hx hb dX10_court_25 rfl (lv_at hl 0 rfl) ?_
        refine mg_sits hx hb hts hin hown hK hP (by decide +kernel) dX10_court_26 ?_
        refine lv_iload_n hx hb dX10_court_29 rfl (lv_at hl 1 rfl) ?_
        refine ml_sits hx hb hK hP (hik) dX10_court_30 ?_
        exact m_reti hx hb hr hlocks hAe hK hP hD hS rfl dX10_court_31 (⟨by rw [spCourt, if_pos b4, hsk]; simp [c_10, c_22, sI, hck], rfl⟩)
    · refine lv_aload_n hx hb dX10_court_13 rfl (lv_at hl 0 rfl) ?_
      refine mg_courtSize hx hb hts hin hown hK hP (by decide +kernel) dX10_court_14 ?_
      refine lv_iload_n hx hb dX10_court_17 rfl (lv_at hl 1 rfl) ?_
      refine ml_courtSize hx hb hK hP (hik) dX10_court_18 ?_
      exact m_reti hx hb hr hlocks hAe hK hP hD hS rfl dX10_court_19 (⟨by rw [spCourt, if_pos b4, hsk]; simp [c_10, sI, hck], rfl⟩)
  · have b4 : isK k = false := (zI_eq _).mp c_4
    refine lv_iconst (v := (-1)) hx hb dX10_court_7 (by decide) ?_
    exact m_reti hx hb hr hlocks hAe hK hP hD hS rfl dX10_court_8 (⟨by simp [spCourt, b4], rfl⟩)
