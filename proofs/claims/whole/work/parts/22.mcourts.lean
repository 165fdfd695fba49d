/-! the reference: courts, texts, the tape's signs -/
theorem ix25 (k j : Nat) : (25 : Int32) * nI k + nI j = nI (25 * k + j) := by
  rw [show (25 : Int32) = nI 25 from rfl, pk_mul, nI_add]
theorem ix25c {k j : Nat} (hk : k < 5) (hj : j < 25) : ((25 : Int32) * nI k + nI j).toNatClampNeg = 25 * k + j := by rw [ix25]; exact nI_clamp (by omega)
theorem ix25i {k j : Nat} (hk : k < 5) (hj : j < 25) : vp_in ((25 : Int32) * nI k + nI j) 125 := by rw [ix25]; exact vp_in_nI (by omega) (by omega)
def mSeatP (v : mS) (k : Nat) (q : Int32) (i : Nat) : Bool := decide (v.2.1 33 (25 * k + i) = q)
set_option maxHeartbeats 4000000 in
set_option maxRecDepth 100000 in
/-- seatOf(kk, q) -/
theorem ctX10_seatOf (l : Launch) (D : va_G) (y : Nat → ClassId) (h : Nat) (a : Nat → Nat) (v : mS) (kk : Nat) (q : Int32) (n : Nat) (hk5 : kk < 5) (hs : v.2.1 32 kk = nI n) (hn1 : n ≤ 25) : mMi l yX10_seatOf wsX10_seatOf ({ frames := 0, cells := 0, slots := 0, locals := 0 }) D y h a v [.ref h, .int (nI kk), .int q] (fun r v' => r = fInt (mSeatP v kk q) n ∧ v' = v) := by
  refine mMi_of (cc := cX10_seatOf) (maxL := 4) (ret := (some .int)) rfl rfl (Nat.le_of_ble_eq_true rfl) ?_
  intro p e s m below meth c A ls hat hAe hl
  obtain ⟨hx, hb, hr, hml, hts, hown, hlocks, hK, hP, hD, hA⟩ := hat
  have hin : ∀ w ∈ wsX100, w ∈ wsX10_seatOf := fun _ h9 => List.mem_cons_of_mem _ (List.mem_append_right _ h9)
  have hl : lv_has ls 4 [(0, .ref h), (1, .int (nI kk)), (2, .int q)] := hl
  have hS : va_S A s.heap s.heap [] := va_S.rf
  have hkc : (nI kk).toNatClampNeg = kk := nI_clamp (by omega)
  have hki : vp_in (nI kk) 5 := vp_in_nI hk5 (by omega)
  refine lv_iconst (v := 0) hx hb dX10_seatOf_0 (by decide) ?_
  refine lv_istore_n (lv' := [(3, .int 0), (0, .ref h), (1, .int (nI kk)), (2, .int q)]) hx hb dX10_seatOf_1 rfl hl (by decide) rfl (fun ls hl => ?_)
  have lp_2 : ∀ (n_2 : Nat) (k : Nat) (x3 : Int32), (k ≤ n) → (n + 1 ≤ k + n_2) → (x3 = nI k) → (∀ i, i < k → mSeatP v kk q i = false) → ∀ (H : Heap) (locs : List Loc), va_P D vwCl (mW h a y v) H → va_D A (mW h a y v) → va_S A s.heap H locs → ∀ (ls : Array Slot), lv_has ls 4 [(0, .ref h), (1, .int (nI kk)), (2, .int q), (3, .int x3)] → W p l e (headSpec wsX10_seatOf ({ frames := 0, cells := 0, slots := 0, locals := 0 })).room s m ([.ref h, .int (nI kk), .int q] : List Value).toArray below meth c H locs 0 0 (MQ below (va_Qi (fun r v' => r = fInt (mSeatP v kk q) n ∧ v' = v) (mEnd D y h a s.heap.size) A) ([.ref h, .int (nI kk), .int q] : List Value).toArray s 0 0 A) (F0 m 2 ls []) := by
    intro n_2
    induction n_2 with
    | zero =>
      intro k x3 hk hf ex3 hno
      exact absurd hf (by omega)
    | succ n_2 ih_2 =>
      intro k x3 hk hf ex3 hno H locs hP hD hS ls hl
      refine lv_iload_n hx hb dX10_seatOf_2 rfl (lv_at hl 3 rfl) ?_
      refine lv_aload_n hx hb dX10_seatOf_3 rfl (lv_at hl 0 rfl) ?_
      refine mg_sits hx hb hts hin hown hK hP (by decide +kernel) dX10_seatOf_4 ?_
      refine lv_iload_n hx hb dX10_seatOf_7 rfl (lv_at hl 1 rfl) ?_
      refine ml_sits hx hb hK hP (hki) dX10_seatOf_8 ?_
      refine lv_icmp_ge (tgt := 35) hx hb dX10_seatOf_9 (by decide) (fun c_9 => ?_) (fun c_9 => ?_)
      · rw [hkc, hs, ex3] at c_9
        have hkn : k = n := by have := (nI_leI (by omega) (by omega)).mp c_9; omega
        refine lv_iconst (v := (-1)) hx hb dX10_seatOf_35 (by decide) ?_
        exact m_reti hx hb hr hlocks hAe hK hP hD hS rfl dX10_seatOf_36 (⟨(fInt_miss (by rw [← hkn]; exact hno)).symm, rfl⟩)
      · rw [hkc, hs, ex3] at c_9
        have hkn : k < n := Nat.not_le.mp (fun q => c_9 (nI_le q (by omega)))
        have hc : ((25 : Int32) * nI kk + x3).toNatClampNeg = 25 * kk + k := by rw [ex3]; exact ix25c hk5 (by omega)
        have hi : vp_in ((25 : Int32) * nI kk + x3) 125 := by rw [ex3]; exact ix25i hk5 (by omega)
        refine lv_aload_n hx hb dX10_seatOf_12 rfl (lv_at hl 0 rfl) ?_
        refine mg_seats hx hb hts hin hown hK hP (by decide +kernel) dX10_seatOf_13 ?_
        refine lv_bipush (v := 25) hx hb dX10_seatOf_16 (by decide) ?_
        refine lv_iload_n hx hb dX10_seatOf_18 rfl (lv_at hl 1 rfl) ?_
        refine lv_imul hx hb dX10_seatOf_19 ?_
        refine lv_iload_n hx hb dX10_seatOf_20 rfl (lv_at hl 3 rfl) ?_
        refine lv_iadd hx hb dX10_seatOf_21 ?_
        refine ml_seats hx hb hK hP (hi) dX10_seatOf_22 ?_
        refine lv_iload_n hx hb dX10_seatOf_23 rfl (lv_at hl 2 rfl) ?_
        refine lv_icmp_ne (tgt := 29) hx hb dX10_seatOf_24 (by decide) (fun c_24 => ?_) (fun c_24 => ?_)
        · rw [hc] at c_24
          obtain ⟨x3_1, ex3_1⟩ : ∃ z : Int32, z = x3 + 1 := ⟨_, rfl⟩
          refine lv_iinc (v := x3_1) (lv' := [(3, .int x3_1), (0, .ref h), (1, .int (nI kk)), (2, .int q)]) hx hb dX10_seatOf_29 hl (k := 3) rfl (by rw [ex3_1]; rfl) (by decide) rfl (fun ls hl => ?_)
          refine lv_goto (tgt := 2) hx hb dX10_seatOf_32 (by decide) ?_
          exact ih_2 (k + 1) _ (by omega) (by omega) (by rw [ex3_1, ex3]; exact nI_1 k) (lt_sb hno (by simp [mSeatP, c_24])) _ _ hP hD hS _ (lv_sub hl [1, 2, 3, 0] rfl)
        · rw [hc] at c_24
          refine lv_iload_n hx hb dX10_seatOf_27 rfl (lv_at hl 3 rfl) ?_
          exact m_reti hx hb hr hlocks hAe hK hP hD hS rfl dX10_seatOf_28 (⟨by rw [ex3]; exact (fInt_hit hno hkn (by simp [mSeatP, c_24])).symm, rfl⟩)
  exact lp_2 (n + 1) 0 _ (Nat.zero_le _) (by omega) rfl (fun i hi => absurd hi (Nat.not_lt_zero _)) _ _ hP hD hS _ (lv_sub hl [1, 2, 3, 0] rfl)
def mHasP (v : mS) (k : Nat) (i : Nat) : Bool := !decide (v.2.1 34 (25 * k + i) = -1)
def anyn (p : Nat → Bool) : Nat → Bool
  | 0 => false
  | n + 1 => anyn p n || p n
theorem anyn_t {p : Nat → Bool} {n j : Nat} (hj : j < n) (h : p j = true) : anyn p n = true := by
  induction n with
  | zero => omega
  | succ n ih =>
    rw [anyn]
    by_cases e : j = n
    · rw [← e, h, Bool.or_true]
    · rw [ih (by omega), Bool.true_or]
theorem anyn_f {p : Nat → Bool} {n : Nat} (h : ∀ i, i < n → p i = false) : anyn p n = false := by
  induction n with
  | zero => rfl
  | succ n ih => rw [anyn, ih (fun i hi => h i (by omega)), h n (by omega)]; rfl
set_option maxHeartbeats 4000000 in
set_option maxRecDepth 100000 in
/-- hasDisc(kk) -/
theorem ctX10_hasDisc (l : Launch) (D : va_G) (y : Nat → ClassId) (h : Nat) (a : Nat → Nat) (v : mS) (kk : Nat) (n : Nat) (hk5 : kk < 5) (hs : v.2.1 32 kk = nI n) (hn1 : n ≤ 25) : mMi l yX10_hasDisc wsX10_hasDisc ({ frames := 0, cells := 0, slots := 0, locals := 0 }) D y h a v [.ref h, .int (nI kk)] (fun r v' => r = zI (anyn (mHasP v kk) n) ∧ v' = v) := by
  refine mMi_of (cc := cX10_hasDisc) (maxL := 3) (ret := (some .boolean)) rfl rfl (Nat.le_of_ble_eq_true rfl) ?_
  intro p e s m below meth c A ls hat hAe hl
  obtain ⟨hx, hb, hr, hml, hts, hown, hlocks, hK, hP, hD, hA⟩ := hat
  have hin : ∀ w ∈ wsX100, w ∈ wsX10_hasDisc := fun _ h9 => List.mem_cons_of_mem _ (List.mem_append_right _ h9)
  have hl : lv_has ls 3 [(0, .ref h), (1, .int (nI kk))] := hl
  have hS : va_S A s.heap s.heap [] := va_S.rf
  have hkc : (nI kk).toNatClampNeg = kk := nI_clamp (by omega)
  have hki : vp_in (nI kk) 5 := vp_in_nI hk5 (by omega)
  refine lv_iconst (v := 0) hx hb dX10_hasDisc_0 (by decide) ?_
  refine lv_istore_n (lv' := [(2, .int 0), (0, .ref h), (1, .int (nI kk))]) hx hb dX10_hasDisc_1 rfl hl (by decide) rfl (fun ls hl => ?_)
  have lp_2 : ∀ (n_2 : Nat) (k : Nat) (x2 : Int32), (k ≤ n) → (n + 1 ≤ k + n_2) → (x2 = nI k) → (∀ i, i < k → mHasP v kk i = false) → ∀ (H : Heap) (locs : List Loc), va_P D vwCl (mW h a y v) H → va_D A (mW h a y v) → va_S A s.heap H locs → ∀ (ls : Array Slot), lv_has ls 3 [(0, .ref h), (1, .int (nI kk)), (2, .int x2)] → W p l e (headSpec wsX10_hasDisc ({ frames := 0, cells := 0, slots := 0, locals := 0 })).room s m ([.ref h, .int (nI kk)] : List Value).toArray below meth c H locs 0 0 (MQ below (va_Qi (fun r v' => r = zI (anyn (mHasP v kk) n) ∧ v' = v) (mEnd D y h a s.heap.size) A) ([.ref h, .int (nI kk)] : List Value).toArray s 0 0 A) (F0 m 2 ls []) := by
    intro n_2
    induction n_2 with
    | zero =>
      intro k x2 hk hf ex2 hno
      exact absurd hf (by omega)
    | succ n_2 ih_2 =>
      intro k x2 hk hf ex2 hno H locs hP hD hS ls hl
      refine lv_iload_n hx hb dX10_hasDisc_2 rfl (lv_at hl 2 rfl) ?_
      refine lv_aload_n hx hb dX10_hasDisc_3 rfl (lv_at hl 0 rfl) ?_
      refine mg_sits hx hb hts hin hown hK hP (by decide +kernel) dX10_hasDisc_4 ?_
      refine lv_iload_n hx hb dX10_hasDisc_7 rfl (lv_at hl 1 rfl) ?_
      refine ml_sits hx hb hK hP (hki) dX10_hasDisc_8 ?_
      refine lv_icmp_ge (tgt := 35) hx hb dX10_hasDisc_9 (by decide) (fun c_9 => ?_) (fun c_9 => ?_)
      · rw [hkc, hs, ex2] at c_9
        have hkn : k = n := by have := (nI_leI (by omega) (by omega)).mp c_9; omega
        refine lv_iconst (v := 0) hx hb dX10_hasDisc_35 (by decide) ?_
        exact m_reti hx hb hr hlocks hAe hK hP hD hS (by first | rfl | decide) dX10_hasDisc_36 (⟨by rw [anyn_f (by rw [← hkn]; exact hno)]; rfl, rfl⟩)
      · rw [hkc, hs, ex2] at c_9
        have hkn : k < n := Nat.not_le.mp (fun q => c_9 (nI_le q (by omega)))
        have hc : ((25 : Int32) * nI kk + x2).toNatClampNeg = 25 * kk + k := by rw [ex2]; exact ix25c hk5 (by omega)
        have hi : vp_in ((25 : Int32) * nI kk + x2) 125 := by rw [ex2]; exact ix25i hk5 (by omega)
        refine lv_aload_n hx hb dX10_hasDisc_12 rfl (lv_at hl 0 rfl) ?_
        refine mg_discs hx hb hts hin hown hK hP (by decide +kernel) dX10_hasDisc_13 ?_
        refine lv_bipush (v := 25) hx hb dX10_hasDisc_16 (by decide) ?_
        refine lv_iload_n hx hb dX10_hasDisc_18 rfl (lv_at hl 1 rfl) ?_
        refine lv_imul hx hb dX10_hasDisc_19 ?_
        refine lv_iload_n hx hb dX10_hasDisc_20 rfl (lv_at hl 2 rfl) ?_
        refine lv_iadd hx hb dX10_hasDisc_21 ?_
        refine ml_discs hx hb hK hP (hi) dX10_hasDisc_22 ?_
        refine lv_iconst (v := (-1)) hx hb dX10_hasDisc_23 (by decide) ?_
        refine lv_icmp_eq (tgt := 29) hx hb dX10_hasDisc_24 (by decide) (fun c_24 => ?_) (fun c_24 => ?_)
        · rw [hc] at c_24
          obtain ⟨x2_1, ex2_1⟩ : ∃ z : Int32, z = x2 + 1 := ⟨_, rfl⟩
          refine lv_iinc (v := x2_1) (lv' := [(2, .int x2_1), (0, .ref h), (1, .int (nI kk))]) hx hb dX10_hasDisc_29 hl (k := 2) rfl (by rw [ex2_1]; rfl) (by decide) rfl (fun ls hl => ?_)
          refine lv_goto (tgt := 2) hx hb dX10_hasDisc_32 (by decide) ?_
          exact ih_2 (k + 1) _ (by omega) (by omega) (by rw [ex2_1, ex2]; exact nI_1 k) (lt_sb hno (by simp [mHasP, c_24])) _ _ hP hD hS _ (lv_sub hl [1, 2, 0] rfl)
        · rw [hc] at c_24
          refine lv_iconst (v := 1) hx hb dX10_hasDisc_27 (by decide) ?_
          exact m_reti hx hb hr hlocks hAe hK hP hD hS (by first | rfl | decide) dX10_hasDisc_28 (⟨by rw [anyn_t hkn (by simp [mHasP, c_24])]; rfl, rfl⟩)
  exact lp_2 (n + 1) 0 _ (Nat.zero_le _) (by omega) rfl (fun i hi => absurd hi (Nat.not_lt_zero _)) _ _ hP hD hS _ (lv_sub hl [1, 2, 0] rfl)
def dCnt (v : mS) (i : Nat) : Bool := !decide (v.2.1 34 i = -1) && decide (v.2.1 35 i = 0)
def dIs (v : mS) (w : Int32) (i : Nat) : Bool := if w = 0 then dCnt v i else if w = 1 then dCnt v i && decide (v.2.1 34 i = 1) else if w = 2 then decide (v.2.1 34 i = -1) && decide (v.2.1 35 i = 0) else !decide (v.2.1 35 i = 0)
def mDiscs (v : mS) (k : Nat) (w : Int32) (n : Nat) : Nat := cnt (fun i => dIs v w (25 * k + i)) n
set_option maxHeartbeats 4000000 in
set_option maxRecDepth 100000 in
/-- discsOf(kk, w) -/
theorem ctX10_discsOf (l : Launch) (D : va_G) (y : Nat → ClassId) (h : Nat) (a : Nat → Nat) (v : mS) (kk : Nat) (w : Int32) (n : Nat) (hk5 : kk < 5) (hs : v.2.1 32 kk = nI n) (hn1 : n ≤ 25) : mMi l yX10_discsOf wsX10_discsOf ({ frames := 0, cells := 0, slots := 0, locals := 0 }) D y h a v [.ref h, .int (nI kk), .int w] (fun r v' => r = nI (mDiscs v kk w n) ∧ v' = v) := by
  refine mMi_of (cc := cX10_discsOf) (maxL := 7) (ret := (some .int)) rfl rfl (Nat.le_of_ble_eq_true rfl) ?_
  intro p e s m below meth c A ls hat hAe hl
  obtain ⟨hx, hb, hr, hml, hts, hown, hlocks, hK, hP, hD, hA⟩ := hat
  have hin : ∀ w ∈ wsX100, w ∈ wsX10_discsOf := fun _ h9 => List.mem_cons_of_mem _ (List.mem_append_right _ h9)
  have hl : lv_has ls 7 [(0, .ref h), (1, .int (nI kk)), (2, .int w)] := hl
  have hS : va_S A s.heap s.heap [] := va_S.rf
  have hkc : (nI kk).toNatClampNeg = kk := nI_clamp (by omega)
  have hki : vp_in (nI kk) 5 := vp_in_nI hk5 (by omega)
  refine lv_iconst (v := 0) hx hb dX10_discsOf_0 (by decide) ?_
  refine lv_istore_n (lv' := [(3, .int 0), (0, .ref h), (1, .int (nI kk)), (2, .int w)]) hx hb dX10_discsOf_1 rfl hl (by decide) rfl (fun ls hl => ?_)
  refine lv_bipush (v := 25) hx hb dX10_discsOf_2 (by decide) ?_
  refine lv_iload_n hx hb dX10_discsOf_4 rfl (lv_at hl 2 rfl) ?_
  refine lv_imul hx hb dX10_discsOf_5 ?_
  refine lv_topi (fun x4_1 ex4_1 => ?_)
  refine lv_istore (lv' := [(4, .int x4_1), (3, .int 0), (0, .ref h), (1, .int (nI kk)), (2, .int w)]) hx hb dX10_discsOf_6 hl (by decide) rfl (fun ls hl => ?_)
  have lp_8 : ∀ (n_8 : Nat) (k : Nat) (x3 : Int32) (x4 : Int32), (k ≤ n) → (n + 1 ≤ k + n_8) → (x4 = nI (25 * kk + k)) → (x3 = nI (cnt (fun i => dIs v w (25 * kk + i)) k)) → ∀ (H : Heap) (locs : List Loc), va_P D vwCl (mW h a y v) H → va_D A (mW h a y v) → va_S A s.heap H locs → ∀ (ls : Array Slot), lv_has ls 7 [(0, .ref h), (1, .int (nI kk)), (2, .int w), (3, .int x3), (4, .int x4)] → W p l e (headSpec wsX10_discsOf ({ frames := 0, cells := 0, slots := 0, locals := 0 })).room s m ([.ref h, .int (nI kk), .int w] : List Value).toArray below meth c H locs 0 0 (MQ below (va_Qi (fun r v' => r = nI (mDiscs v kk w n) ∧ v' = v) (mEnd D y h a s.heap.size) A) ([.ref h, .int (nI kk), .int w] : List Value).toArray s 0 0 A) (F0 m 8 ls []) := by
    intro n_8
    induction n_8 with
    | zero =>
      intro k x3 x4 hk hf ex4 ex3
      exact absurd hf (by omega)
    | succ n_8 ih_8 =>
      intro k x3 x4 hk hf ex4 ex3 H locs hP hD hS ls hl
      refine lv_iload hx hb dX10_discsOf_8 (lv_at hl 4 rfl) ?_
      refine lv_bipush (v := 25) hx hb dX10_discsOf_10 (by decide) ?_
      refine lv_iload_n hx hb dX10_discsOf_12 rfl (lv_at hl 1 rfl) ?_
      refine lv_imul hx hb dX10_discsOf_13 ?_
      refine lv_aload_n hx hb dX10_discsOf_14 rfl (lv_at hl 0 rfl) ?_
      refine mg_sits hx hb hts hin hown hK hP (by decide +kernel) dX10_discsOf_15 ?_
      refine lv_iload_n hx hb dX10_discsOf_18 rfl (lv_at hl 1 rfl) ?_
      refine ml_sits hx hb hK hP (hki) dX10_discsOf_19 ?_
      refine lv_iadd hx hb dX10_discsOf_20 ?_
      refine lv_icmp_ge (tgt := 152) hx hb dX10_discsOf_21 (by decide) (fun c_21 => ?_) (fun c_21 => ?_)
      · rw [hkc, hs, ix25, ex4] at c_21
        have hkn : k = n := by have := (nI_leI (by omega) (by omega)).mp c_21; omega
        refine lv_iload_n hx hb dX10_discsOf_152 rfl (lv_at hl 3 rfl) ?_
        exact m_reti hx hb hr hlocks hAe hK hP hD hS rfl dX10_discsOf_153 (⟨by rw [ex3, hkn]; rfl, rfl⟩)
      · rw [hkc, hs, ix25, ex4] at c_21
        have hkn : k < n := Nat.not_le.mp (fun q => c_21 (nI_le (by omega) (by omega)))
        have hc : x4.toNatClampNeg = 25 * kk + k := by rw [ex4]; exact nI_clamp (by omega)
        have hi : vp_in x4 125 := by rw [ex4]; exact vp_in_nI (by omega) (by omega)
        have j_50 : ∀ z5 : Int32, z5 = zI (dCnt v (25 * kk + k)) → W p l e (headSpec wsX10_discsOf ({ frames := 0, cells := 0, slots := 0, locals := 0 })).room s m ([.ref h, .int (nI kk), .int w] : List Value).toArray below meth c H locs 0 0 (MQ below (va_Qi (fun r v' => r = nI (mDiscs v kk w n) ∧ v' = v) (mEnd D y h a s.heap.size) A) ([.ref h, .int (nI kk), .int w] : List Value).toArray s 0 0 A) (F0 m 50 ls (.int z5 :: [])) := by
          intro z5 hz5
          refine lv_istore (lv' := [(5, .int z5), (0, .ref h), (1, .int (nI kk)), (2, .int w), (3, .int x3), (4, .int x4)]) hx hb dX10_discsOf_50 hl (by decide) rfl (fun ls hl => ?_)
          have j_131 : ∀ z6 : Int32, (z6 = 0 ↔ dIs v w (25 * kk + k) = false) → W p l e (headSpec wsX10_discsOf ({ frames := 0, cells := 0, slots := 0, locals := 0 })).room s m ([.ref h, .int (nI kk), .int w] : List Value).toArray below meth c H locs 0 0 (MQ below (va_Qi (fun r v' => r = nI (mDiscs v kk w n) ∧ v' = v) (mEnd D y h a s.heap.size) A) ([.ref h, .int (nI kk), .int w] : List Value).toArray s 0 0 A) (F0 m 131 ls (.int z6 :: [])) := by
            intro z6 hz6
            refine lv_istore (lv' := [(6, .int z6), (5, .int z5), (0, .ref h), (1, .int (nI kk)), (2, .int w), (3, .int x3), (4, .int x4)]) hx hb dX10_discsOf_131 hl (by decide) rfl (fun ls hl => ?_)
            refine lv_iload_n hx hb dX10_discsOf_133 rfl (lv_at hl 5 rfl) ?_
            refine lv_iload hx hb dX10_discsOf_134 (lv_at hl 0 rfl) ?_
            refine lv_if_eq (tgt := 143) hx hb dX10_discsOf_136 (by decide) (fun c_136 => ?_) (fun c_136 => ?_)
            · refine lv_iconst (v := 0) hx hb dX10_discsOf_143 (by decide) ?_
              refine lv_iadd hx hb dX10_discsOf_144 ?_
              refine lv_topi (fun x3_2 ex3_2 => ?_)
              refine lv_istore_n (lv' := [(3, .int x3_2), (6, .int z6), (5, .int z5), (0, .ref h), (1, .int (nI kk)), (2, .int w), (4, .int x4)]) hx hb dX10_discsOf_145 rfl hl (by decide) rfl (fun ls hl => ?_)
              obtain ⟨x4_3, ex4_3⟩ : ∃ z : Int32, z = x4 + 1 := ⟨_, rfl⟩
              refine lv_iinc (v := x4_3) (lv' := [(4, .int x4_3), (3, .int x3_2), (6, .int z6), (5, .int z5), (0, .ref h), (1, .int (nI kk)), (2, .int w)]) hx hb dX10_discsOf_146 hl (k := 6) rfl (by rw [ex4_3]; rfl) (by decide) rfl (fun ls hl => ?_)
              refine lv_goto (tgt := 8) hx hb dX10_discsOf_149 (by decide) ?_
              exact ih_8 (k + 1) _ _ (by omega) (by omega) (by rw [ex4_3, ex4]; exact nI_1 _) (by rw [ex3_2, ex3]; exact cnt_f (p := fun i => dIs v w (25 * kk + i)) (hz6.mp c_136)) _ _ hP hD hS _ (lv_sub hl [4, 5, 6, 1, 0] rfl)
            · refine lv_iconst (v := 1) hx hb dX10_discsOf_139 (by decide) ?_
              refine lv_goto (tgt := 144) hx hb dX10_discsOf_140 (by decide) ?_
              refine lv_iadd hx hb dX10_discsOf_144 ?_
              refine lv_topi (fun x3_4 ex3_4 => ?_)
              refine lv_istore_n (lv' := [(3, .int x3_4), (6, .int z6), (5, .int z5), (0, .ref h), (1, .int (nI kk)), (2, .int w), (4, .int x4)]) hx hb dX10_discsOf_145 rfl hl (by decide) rfl (fun ls hl => ?_)
              obtain ⟨x4_5, ex4_5⟩ : ∃ z : Int32, z = x4 + 1 := ⟨_, rfl⟩
              refine lv_iinc (v := x4_5) (lv' := [(4, .int x4_5), (3, .int x3_4), (6, .int z6), (5, .int z5), (0, .ref h), (1, .int (nI kk)), (2, .int w)]) hx hb dX10_discsOf_146 hl (k := 6) rfl (by rw [ex4_5]; rfl) (by decide) rfl (fun ls hl => ?_)
              refine lv_goto (tgt := 8) hx hb dX10_discsOf_149 (by decide) ?_
              exact ih_8 (k + 1) _ _ (by omega) (by omega) (by rw [ex4_5, ex4]; exact nI_1 _) (by rw [ex3_4, ex3]; exact cnt_t (p := fun i => dIs v w (25 * kk + i)) (by have h9 := fun q => c_136 (hz6.mpr q); simpa using h9)) _ _ hP hD hS _ (lv_sub hl [4, 5, 6, 1, 0] rfl)
          refine lv_iload_n hx hb dX10_discsOf_52 rfl (lv_at hl 3 rfl) ?_
          refine lv_if_ne (tgt := 61) hx hb dX10_discsOf_53 (by decide) (fun c_53 => ?_) (fun c_53 => ?_)
          · refine lv_iload_n hx hb dX10_discsOf_61 rfl (lv_at hl 3 rfl) ?_
            refine lv_iconst (v := 1) hx hb dX10_discsOf_62 (by decide) ?_
            refine lv_icmp_ne (tgt := 90) hx hb dX10_discsOf_63 (by decide) (fun c_63 => ?_) (fun c_63 => ?_)
            · refine lv_iload_n hx hb dX10_discsOf_90 rfl (lv_at hl 3 rfl) ?_
              refine lv_iconst (v := 2) hx hb dX10_discsOf_91 (by decide) ?_
              refine lv_icmp_ne (tgt := 124) hx hb dX10_discsOf_92 (by decide) (fun c_92 => ?_) (fun c_92 => ?_)
              · refine lv_aload_n hx hb dX10_discsOf_124 rfl (lv_at hl 1 rfl) ?_
                refine mg_isStruck hx hb hts hin hown hK hP (by decide +kernel) dX10_discsOf_125 ?_
                refine lv_iload hx hb dX10_discsOf_128 (lv_at hl 5 rfl) ?_
                refine ml_isStruck hx hb hK hP (hi) dX10_discsOf_130 ?_
                exact j_131 _ (by rw [hc]; simp [dIs, c_53, c_63, c_92])
              · refine lv_aload_n hx hb dX10_discsOf_95 rfl (lv_at hl 1 rfl) ?_
                refine mg_discs hx hb hts hin hown hK hP (by decide +kernel) dX10_discsOf_96 ?_
                refine lv_iload hx hb dX10_discsOf_99 (lv_at hl 5 rfl) ?_
                refine ml_discs hx hb hK hP (hi) dX10_discsOf_101 ?_
                refine lv_iconst (v := (-1)) hx hb dX10_discsOf_102 (by decide) ?_
                refine lv_icmp_ne (tgt := 120) hx hb dX10_discsOf_103 (by decide) (fun c_103 => ?_) (fun c_103 => ?_)
                · rw [hc] at c_103
                  refine lv_iconst (v := 0) hx hb dX10_discsOf_120 (by decide) ?_
                  refine lv_goto (tgt := 131) hx hb dX10_discsOf_121 (by decide) ?_
                  exact j_131 _ (by simp [zI_eq, dIs, hz5, c_53, c_63, c_92, c_103])
                · rw [hc] at c_103
                  refine lv_aload_n hx hb dX10_discsOf_106 rfl (lv_at hl 1 rfl) ?_
                  refine mg_isStruck hx hb hts hin hown hK hP (by decide +kernel) dX10_discsOf_107 ?_
                  refine lv_iload hx hb dX10_discsOf_110 (lv_at hl 5 rfl) ?_
                  refine ml_isStruck hx hb hK hP (hi) dX10_discsOf_112 ?_
                  refine lv_if_ne (tgt := 120) hx hb dX10_discsOf_113 (by decide) (fun c_113 => ?_) (fun c_113 => ?_)
                  · rw [hc] at c_113
                    refine lv_iconst (v := 0) hx hb dX10_discsOf_120 (by decide) ?_
                    refine lv_goto (tgt := 131) hx hb dX10_discsOf_121 (by decide) ?_
                    exact j_131 _ (by simp [zI_eq, dIs, hz5, c_53, c_63, c_92, c_103, c_113])
                  · rw [hc] at c_113
                    refine lv_iconst (v := 1) hx hb dX10_discsOf_116 (by decide) ?_
                    refine lv_goto (tgt := 131) hx hb dX10_discsOf_117 (by decide) ?_
                    exact j_131 _ (by simp [zI_eq, dIs, hz5, c_53, c_63, c_92, c_103, c_113])
            · refine lv_iload hx hb dX10_discsOf_66 (lv_at hl 0 rfl) ?_
              refine lv_if_eq (tgt := 86) hx hb dX10_discsOf_68 (by decide) (fun c_68 => ?_) (fun c_68 => ?_)
              · rw [hz5] at c_68
                simp only [zI_eq] at c_68
                refine lv_iconst (v := 0) hx hb dX10_discsOf_86 (by decide) ?_
                refine lv_goto (tgt := 131) hx hb dX10_discsOf_87 (by decide) ?_
                exact j_131 _ (by simp [zI_eq, dIs, hz5, c_53, c_63, c_68])
              · rw [hz5] at c_68
                simp only [zI_eq] at c_68
                refine lv_aload_n hx hb dX10_discsOf_71 rfl (lv_at hl 1 rfl) ?_
                refine mg_discs hx hb hts hin hown hK hP (by decide +kernel) dX10_discsOf_72 ?_
                refine lv_iload hx hb dX10_discsOf_75 (lv_at hl 5 rfl) ?_
                refine ml_discs hx hb hK hP (hi) dX10_discsOf_77 ?_
                refine lv_iconst (v := 1) hx hb dX10_discsOf_78 (by decide) ?_
                refine lv_icmp_ne (tgt := 86) hx hb dX10_discsOf_79 (by decide) (fun c_79 => ?_) (fun c_79 => ?_)
                · rw [hc] at c_79
                  refine lv_iconst (v := 0) hx hb dX10_discsOf_86 (by decide) ?_
                  refine lv_goto (tgt := 131) hx hb dX10_discsOf_87 (by decide) ?_
                  exact j_131 _ (by simp [zI_eq, dIs, hz5, c_53, c_63, c_68, c_79])
                · rw [hc] at c_79
                  refine lv_iconst (v := 1) hx hb dX10_discsOf_82 (by decide) ?_
                  refine lv_goto (tgt := 131) hx hb dX10_discsOf_83 (by decide) ?_
                  exact j_131 _ (by simp [zI_eq, dIs, hz5, c_53, c_63, c_68, c_79])
          · refine lv_iload hx hb dX10_discsOf_56 (lv_at hl 0 rfl) ?_
            refine lv_goto (tgt := 131) hx hb dX10_discsOf_58 (by decide) ?_
            exact j_131 _ (by simp [zI_eq, dIs, hz5, c_53])
        refine lv_aload_n hx hb dX10_discsOf_24 rfl (lv_at hl 0 rfl) ?_
        refine mg_discs hx hb hts hin hown hK hP (by decide +kernel) dX10_discsOf_25 ?_
        refine lv_iload hx hb dX10_discsOf_28 (lv_at hl 4 rfl) ?_
        refine ml_discs hx hb hK hP (hi) dX10_discsOf_30 ?_
        refine lv_iconst (v := (-1)) hx hb dX10_discsOf_31 (by decide) ?_
        refine lv_icmp_eq (tgt := 49) hx hb dX10_discsOf_32 (by decide) (fun c_32 => ?_) (fun c_32 => ?_)
        · rw [hc] at c_32
          refine lv_iconst (v := 0) hx hb dX10_discsOf_49 (by decide) ?_
          exact j_50 _ (by simp [zI, dCnt, c_32])
        · rw [hc] at c_32
          refine lv_aload_n hx hb dX10_discsOf_35 rfl (lv_at hl 0 rfl) ?_
          refine mg_isStruck hx hb hts hin hown hK hP (by decide +kernel) dX10_discsOf_36 ?_
          refine lv_iload hx hb dX10_discsOf_39 (lv_at hl 4 rfl) ?_
          refine ml_isStruck hx hb hK hP (hi) dX10_discsOf_41 ?_
          refine lv_if_ne (tgt := 49) hx hb dX10_discsOf_42 (by decide) (fun c_42 => ?_) (fun c_42 => ?_)
          · rw [hc] at c_42
            refine lv_iconst (v := 0) hx hb dX10_discsOf_49 (by decide) ?_
            exact j_50 _ (by simp [zI, dCnt, c_32, c_42])
          · rw [hc] at c_42
            refine lv_iconst (v := 1) hx hb dX10_discsOf_45 (by decide) ?_
            refine lv_goto (tgt := 50) hx hb dX10_discsOf_46 (by decide) ?_
            exact j_50 _ (by simp [zI, dCnt, c_32, c_42])
  exact lp_8 (n + 1) 0 _ _ (Nat.zero_le _) (by omega) (by rw [ex4_1, show (25 : Int32) = nI 25 from rfl, pk_mul]; rfl) rfl _ _ hP hD hS _ (lv_sub hl [2, 3, 4, 1, 0] rfl)
