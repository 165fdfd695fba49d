/-! the reference: the reader's state, word, number -/
theorem fstn_le {p : Nat → Bool} : ∀ (n k j : Nat), k ≤ j → j < k + n → p j = true → fstn p n k ≤ j
  | 0, k, j, h1, h2, _ => by omega
  | n + 1, k, j, h1, h2, h3 => by
    rw [fstn]
    split
    · exact h1
    · rename_i h
      by_cases e : k = j
      · rw [e] at h; exact absurd h3 h
      · exact fstn_le n (k + 1) j (by omega) (by omega) h3
theorem past_le {f : Int32 → Bool} {v : mS} {z p : Nat} (hf : f (-1) = false) (hz : z ≤ 1000) : pastOf f v z p ≤ max p z := by
  refine fstn_le 1001 p (max p z) (by omega) (by omega) ?_
  show (!f (mSee v z (max p z))) = true
  rw [see_out (by omega), hf]; rfl
/-- the reader stands at a place of the tape -/
def PI (z : Nat) (v : mS) : Prop := v.1 6 = nI (sI (v.1 6)) ∧ sI (v.1 6) ≤ 1000 ∧ v.1 2 = nI z ∧ z ≤ 1000
def scn (z : Nat) (v : mS) : mS := spScan v z (sI (v.1 6))
theorem PI_of {z e : Nat} {v : mS} (h : v.1 6 = nI e) (he : e ≤ 1000) (h2 : v.1 2 = nI z) (hz : z ≤ 1000) : PI z v := by
  have : sI (v.1 6) = e := by rw [h]; exact nI_clamp (by omega)
  exact ⟨by rw [this]; exact h, by rw [this]; exact he, h2, hz⟩
theorem PI_scn {z : Nat} {v : mS} (h : PI z v) : PI z (scn z v) := by
  obtain ⟨h1, h2, h3, h4⟩ := h
  unfold scn spScan
  have hP := past_le (f := isBl) (v := v) (p := sI (v.1 6)) (by decide) h4
  generalize hPP : scP v z (sI (v.1 6)) = P
  have hP1 : P ≤ 1000 := by rw [← hPP]; unfold scP; omega
  unfold scS
  split
  · exact PI_of (e := P) rfl hP1 h3 h4
  · rename_i hne
    have hPz : P < z := by
      rcases Nat.lt_or_ge P z with q | q
      · exact q
      · exact absurd (see_out q) hne
    have hA := past_le (f := isSm) (v := v) (p := P + 1) (by decide) h4
    have hB := past_le (f := isDg) (v := v) (p := P + 1) (by decide) h4
    split
    · exact PI_of (e := pastOf isSm v z (P + 1)) rfl (by omega) h3 h4
    · split
      · exact PI_of (e := pastOf isDg v z (P + 1)) rfl (by omega) h3 h4
      · exact PI_of (e := P + 1) rfl (by omega) h3 h4
def wrg (v : mS) (k : Int32) : mS := miU (miU v 8 k) 9 (v.1 5)
def spWord (z : Nat) (v : mS) (w : Int32) : Int32 × mS := if v.1 3 = 1 ∧ v.1 4 = w then (1, scn z v) else (0, wrg v 1)
def spNumber (z : Nat) (v : mS) (w : Nat) : Int32 × mS := if v.1 3 = 2 then (1, scn z (mrU v 10 (420 + w) (v.1 7))) else (0, wrg v 1)
set_option maxHeartbeats 4000000 in
set_option maxRecDepth 100000 in
/-- word(w) -/
theorem ctX10_word (l : Launch) (D : va_G) (y : Nat → ClassId) (h : Nat) (a : Nat → Nat) (q qv : Nat) (v : mS) (w : Int32) (z : Nat) (hI : PI z v) : nMi l yX10_word wsX10_word ({ frames := 7, cells := 0, slots := 0, locals := 156 }) D y h a q qv v [.ref h, .int w] (fun r v' => (r, v') = spWord z v w) := by
  refine nMi_of (cc := cX10_word) (maxL := 2) (ret := (some .boolean)) rfl rfl (Nat.le_of_ble_eq_true rfl) ?_
  intro p e s m below meth c A ls hat hE hR hAe hl
  obtain ⟨hx, hb, hr, hml, hts, hown, hlocks, hK, hP, hD, hA⟩ := hat
  have hin : ∀ w ∈ wsX100, w ∈ wsX10_word := fun _ h9 => List.mem_cons_of_mem _ (List.mem_append_right _ h9)
  have hl : lv_has ls 2 [(0, .ref h), (1, .int w)] := hl
  have hS : va_S A s.heap s.heap [] := va_S.rf
  refine lv_aload_n hx hb dX10_word_0 rfl (lv_at hl 0 rfl) ?_
  refine mg_sort hx hb hts hin hown hK hP (by decide +kernel) dX10_word_1 ?_
  refine lv_iconst (v := 1) hx hb dX10_word_4 (by decide) ?_
  refine lv_icmp_ne (tgt := 16) hx hb dX10_word_5 (by decide) (fun c_5 => ?_) (fun c_5 => ?_)
  · refine lv_aload_n hx hb dX10_word_16 rfl (lv_at hl 0 rfl) ?_
    refine lv_iconst (v := 1) hx hb dX10_word_17 (by decide) ?_
    refine m_calli (As := [.int 1]) (rest := []) ⟨hx, hb, hml, hown, hts⟩ (ctX10_wrong l D y h a v 1) (cwV 1 hts gX10_word_X10_wrong rfl rfl rfl (by decide +kernel) ⟨Nat.le_of_ble_eq_true rfl, Nat.le_of_ble_eq_true rfl⟩) hK hP hD hS hA rfl hl.1 rfl (Nat.le_of_ble_eq_true rfl) dX10_word_18 ⟨Nat.zero_le _, Nat.zero_le _⟩ (fun r18 v18 H locs hw18 hP hD hS => ?_)
    exact m_reti hx hb hr hlocks hAe hK hP hD hS (by rw [hw18.1]; rfl) dX10_word_21 (by rw [hw18.1, hw18.2, spWord, if_neg (fun q9 => c_5 q9.1)]; rfl)
  · refine lv_aload_n hx hb dX10_word_8 rfl (lv_at hl 0 rfl) ?_
    refine mg_what hx hb hts hin hown hK hP (by decide +kernel) dX10_word_9 ?_
    refine lv_iload_n hx hb dX10_word_12 rfl (lv_at hl 1 rfl) ?_
    refine lv_icmp_eq (tgt := 22) hx hb dX10_word_13 (by decide) (fun c_13 => ?_) (fun c_13 => ?_)
    · refine lv_aload_n hx hb dX10_word_22 rfl (lv_at hl 0 rfl) ?_
      refine n_callv (As := []) (rest := []) ⟨hx, hb, hml, hown, hts⟩ (ctX10_scan l D y h a q qv (v) (sI ((v).1 6)) z (hI).1 (hI).2.1 (hI).2.2.1 (hI).2.2.2) (cwV 0 hts gX10_word_X10_scan rfl rfl rfl (by decide +kernel) ⟨Nat.le_of_ble_eq_true rfl, Nat.le_of_ble_eq_true rfl⟩) hE hR hK hP hD hS hA rfl hl.1 rfl (Nat.le_of_ble_eq_true rfl) dX10_word_23 ⟨Nat.zero_le _, Nat.zero_le _⟩ (fun v9 H locs hq hP hD hS => ?_)
      refine lv_iconst (v := 1) hx hb dX10_word_26 (by decide) ?_
      exact m_reti hx hb hr hlocks hAe hK hP hD hS (rfl) dX10_word_27 (by rw [hq, spWord, if_pos ⟨c_5, c_13⟩]; rfl)
    · refine lv_aload_n hx hb dX10_word_16 rfl (lv_at hl 0 rfl) ?_
      refine lv_iconst (v := 1) hx hb dX10_word_17 (by decide) ?_
      refine m_calli (As := [.int 1]) (rest := []) ⟨hx, hb, hml, hown, hts⟩ (ctX10_wrong l D y h a v 1) (cwV 1 hts gX10_word_X10_wrong rfl rfl rfl (by decide +kernel) ⟨Nat.le_of_ble_eq_true rfl, Nat.le_of_ble_eq_true rfl⟩) hK hP hD hS hA rfl hl.1 rfl (Nat.le_of_ble_eq_true rfl) dX10_word_18 ⟨Nat.zero_le _, Nat.zero_le _⟩ (fun r18 v18 H locs hw18 hP hD hS => ?_)
      exact m_reti hx hb hr hlocks hAe hK hP hD hS (by rw [hw18.1]; rfl) dX10_word_21 (by rw [hw18.1, hw18.2, spWord, if_neg (fun q9 => c_13 q9.2)]; rfl)
set_option maxHeartbeats 4000000 in
set_option maxRecDepth 100000 in
/-- number(w) -/
theorem ctX10_number (l : Launch) (D : va_G) (y : Nat → ClassId) (h : Nat) (a : Nat → Nat) (q qv : Nat) (v : mS) (w z : Nat) (hw : w < 28) (hI : PI z v) : nMi l yX10_number wsX10_number ({ frames := 7, cells := 0, slots := 0, locals := 156 }) D y h a q qv v [.ref h, .int (nI w)] (fun r v' => (r, v') = spNumber z v w) := by
  refine nMi_of (cc := cX10_number) (maxL := 2) (ret := (some .boolean)) rfl rfl (Nat.le_of_ble_eq_true rfl) ?_
  intro p e s m below meth c A ls hat hE hR hAe hl
  obtain ⟨hx, hb, hr, hml, hts, hown, hlocks, hK, hP, hD, hA⟩ := hat
  have hin : ∀ w ∈ wsX100, w ∈ wsX10_number := fun _ h9 => List.mem_cons_of_mem _ (List.mem_append_right _ h9)
  have hl : lv_has ls 2 [(0, .ref h), (1, .int (nI w))] := hl
  have hS : va_S A s.heap s.heap [] := va_S.rf
  have hix : (420 : Int32) + nI w = nI (420 + w) := by rw [show (420 : Int32) = nI 420 from rfl, nI_add]
  have hcx : (nI (420 + w)).toNatClampNeg = 420 + w := nI_clamp (by omega)
  refine lv_aload_n hx hb dX10_number_0 rfl (lv_at hl 0 rfl) ?_
  refine mg_sort hx hb hts hin hown hK hP (by decide +kernel) dX10_number_1 ?_
  refine lv_iconst (v := 2) hx hb dX10_number_4 (by decide) ?_
  refine lv_icmp_eq (tgt := 14) hx hb dX10_number_5 (by decide) (fun c_5 => ?_) (fun c_5 => ?_)
  · refine lv_aload_n hx hb dX10_number_14 rfl (lv_at hl 0 rfl) ?_
    refine mg_laws hx hb hts hin hown hK hP (by decide +kernel) dX10_number_15 ?_
    refine lv_sipush (v := 420) hx hb dX10_number_18 (by decide) ?_
    refine lv_iload_n hx hb dX10_number_21 rfl (lv_at hl 1 rfl) ?_
    refine lv_iadd hx hb dX10_number_22 ?_
    refine lv_aload_n hx hb dX10_number_23 rfl (lv_at hl 0 rfl) ?_
    refine mg_worth hx hb hts hin hown hK hP (by decide +kernel) dX10_number_24 ?_
    rw [hix]
    refine ms_laws hx hb hK hP hD hS (vp_in_nI (by omega) (by omega)) dX10_number_27 (fun H locs hP hD hS => ?_)
    rw [hcx] at hP hD
    refine lv_aload_n hx hb dX10_number_28 rfl (lv_at hl 0 rfl) ?_
    refine n_callv (As := []) (rest := []) ⟨hx, hb, hml, hown, hts⟩ (ctX10_scan l D y h a q qv (mrU v 10 (420 + w) (v.1 7)) (sI ((mrU v 10 (420 + w) (v.1 7)).1 6)) z (hI).1 (hI).2.1 (hI).2.2.1 (hI).2.2.2) (cwV 0 hts gX10_number_X10_scan rfl rfl rfl (by decide +kernel) ⟨Nat.le_of_ble_eq_true rfl, Nat.le_of_ble_eq_true rfl⟩) hE hR hK hP hD hS hA rfl hl.1 rfl (Nat.le_of_ble_eq_true rfl) dX10_number_29 ⟨Nat.zero_le _, Nat.zero_le _⟩ (fun v9 H locs hq hP hD hS => ?_)
    refine lv_iconst (v := 1) hx hb dX10_number_32 (by decide) ?_
    exact m_reti hx hb hr hlocks hAe hK hP hD hS (rfl) dX10_number_33 (by rw [hq, spNumber, if_pos c_5]; rfl)
  · refine lv_aload_n hx hb dX10_number_8 rfl (lv_at hl 0 rfl) ?_
    refine lv_iconst (v := 1) hx hb dX10_number_9 (by decide) ?_
    refine m_calli (As := [.int 1]) (rest := []) ⟨hx, hb, hml, hown, hts⟩ (ctX10_wrong l D y h a v 1) (cwV 1 hts gX10_number_X10_wrong rfl rfl rfl (by decide +kernel) ⟨Nat.le_of_ble_eq_true rfl, Nat.le_of_ble_eq_true rfl⟩) hK hP hD hS hA rfl hl.1 rfl (Nat.le_of_ble_eq_true rfl) dX10_number_10 ⟨Nat.zero_le _, Nat.zero_le _⟩ (fun r10 v10 H locs hw10 hP hD hS => ?_)
    exact m_reti hx hb hr hlocks hAe hK hP hD hS (by rw [hw10.1]; rfl) dX10_number_13 (by rw [hw10.1, hw10.2, spNumber, if_neg c_5]; rfl)
