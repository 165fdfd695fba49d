/-! the reference: what its calls share, reads alone -/
set_option maxHeartbeats 4000000 in
set_option maxRecDepth 100000 in
/-- isCitizen(t) -/
theorem ctX10_isCitizen (l : Launch) (D : va_G) (y : Nat → ClassId) (h : Nat) (a : Nat → Nat) (v : mS) (t : Int32) (n : Nat) (hn : v.1 15 = nI n) (hn1 : n ≤ 150) : mMi l yX10_isCitizen wsX10_isCitizen ({ frames := 1, cells := 0, slots := 0, locals := 25 }) D y h a v [.ref h, .int t] (fun r v' => r = zI (inR 0 ((n : Int) - 1) t) ∧ v' = v) := by
  refine mMi_of (cc := cX10_isCitizen) (maxL := 2) (ret := (some .boolean)) rfl rfl (Nat.le_of_ble_eq_true rfl) ?_
  intro p e s m below meth c A ls hat hAe hl
  obtain ⟨hx, hb, hr, hml, hts, hown, hlocks, hK, hP, hD, hA⟩ := hat
  have hin : ∀ w ∈ wsX100, w ∈ wsX10_isCitizen := fun _ h9 => List.mem_cons_of_mem _ (List.mem_append_right _ h9)
  have hl : lv_has ls 2 [(0, .ref h), (1, .int t)] := hl
  have hS : va_S A s.heap s.heap [] := va_S.rf
  refine lv_iload_n hx hb dX10_isCitizen_0 rfl (lv_at hl 1 rfl) ?_
  refine lv_i2l hx hb dX10_isCitizen_1 rfl ?_
  refine lv_lconst (v := 0) hx hb dX10_isCitizen_2 (by decide) ?_
  refine lv_aload_n hx hb dX10_isCitizen_3 rfl (lv_at hl 0 rfl) ?_
  refine mg_citizens hx hb hts hin hown hK hP (by decide +kernel) dX10_isCitizen_4 ?_
  refine lv_iconst (v := 1) hx hb dX10_isCitizen_7 (by decide) ?_
  refine lv_isub hx hb dX10_isCitizen_8 ?_
  refine lv_i2l hx hb dX10_isCitizen_9 rfl ?_
  refine s_calli (As := [.long t.toInt64, .long 0, .long _]) (rest := []) ⟨hx, hb, hml, hown, hts⟩ (ctX10_in l _ _ _) (cwS 3 hts gX10_isCitizen_X10_in rfl rfl rfl (by decide +kernel) ⟨Nat.le_of_ble_eq_true rfl, Nat.le_of_ble_eq_true rfl⟩) hP hS rfl hl.1 rfl (Nat.le_of_ble_eq_true rfl) dX10_isCitizen_10 ⟨Nat.zero_le _, Nat.zero_le _⟩ (fun H locs hP hS => ?_)
  exact m_reti hx hb hr hlocks hAe hK hP hD hS (mIn_nar _ _ _) dX10_isCitizen_13 (⟨by rw [hn]; exact isC_in (by omega) t, rfl⟩)
def mColP (v : mS) (t w : Int32) (i : Nat) : Bool := decide (v.2.1 16 i = t) && (decide (v.2.1 17 i = w) && !decide (v.2.1 22 i = -1))
set_option maxHeartbeats 4000000 in
set_option maxRecDepth 100000 in
/-- column(t, w) -/
theorem ctX10_column (l : Launch) (D : va_G) (y : Nat → ClassId) (h : Nat) (a : Nat → Nat) (v : mS) (t w : Int32) (n : Nat) (hn : v.1 15 = nI n) (hn1 : n ≤ 150) : mMi l yX10_column wsX10_column ({ frames := 0, cells := 0, slots := 0, locals := 0 }) D y h a v [.ref h, .int t, .int w] (fun r v' => r = nI (cnt (mColP v t w) n) ∧ v' = v) := by
  refine mMi_of (cc := cX10_column) (maxL := 5) (ret := (some .int)) rfl rfl (Nat.le_of_ble_eq_true rfl) ?_
  intro p e s m below meth c A ls hat hAe hl
  obtain ⟨hx, hb, hr, hml, hts, hown, hlocks, hK, hP, hD, hA⟩ := hat
  have hin : ∀ w ∈ wsX100, w ∈ wsX10_column := fun _ h9 => List.mem_cons_of_mem _ (List.mem_append_right _ h9)
  have hl : lv_has ls 5 [(0, .ref h), (1, .int t), (2, .int w)] := hl
  have hS : va_S A s.heap s.heap [] := va_S.rf
  refine lv_iconst (v := 0) hx hb dX10_column_0 (by decide) ?_
  refine lv_istore_n (lv' := [(3, .int 0), (0, .ref h), (1, .int t), (2, .int w)]) hx hb dX10_column_1 rfl hl (by decide) rfl (fun ls hl => ?_)
  refine lv_iconst (v := 0) hx hb dX10_column_2 (by decide) ?_
  refine lv_istore (lv' := [(4, .int 0), (3, .int 0), (0, .ref h), (1, .int t), (2, .int w)]) hx hb dX10_column_3 hl (by decide) rfl (fun ls hl => ?_)
  have lp_5 : ∀ (n_5 : Nat) (k : Nat) (x3 : Int32) (x4 : Int32), (k ≤ n) → (n + 1 ≤ k + n_5) → (x4 = nI k) → (x3 = nI (cnt (mColP v t w) k)) → ∀ (H : Heap) (locs : List Loc), va_P D vwCl (mW h a y v) H → va_D A (mW h a y v) → va_S A s.heap H locs → ∀ (ls : Array Slot), lv_has ls 5 [(0, .ref h), (1, .int t), (2, .int w), (3, .int x3), (4, .int x4)] → W p l e (headSpec wsX10_column ({ frames := 0, cells := 0, slots := 0, locals := 0 })).room s m ([.ref h, .int t, .int w] : List Value).toArray below meth c H locs 0 0 (MQ below (va_Qi (fun r v' => r = nI (cnt (mColP v t w) n) ∧ v' = v) (mEnd D y h a s.heap.size) A) ([.ref h, .int t, .int w] : List Value).toArray s 0 0 A) (F0 m 5 ls []) := by
    intro n_5
    induction n_5 with
    | zero =>
      intro k x3 x4 hk hf ex4 ex3
      exact absurd hf (by omega)
    | succ n_5 ih_5 =>
      intro k x3 x4 hk hf ex4 ex3 H locs hP hD hS ls hl
      have hc : x4.toNatClampNeg = k := by rw [ex4]; exact nI_clamp (by omega)
      refine lv_iload hx hb dX10_column_5 (lv_at hl 4 rfl) ?_
      refine lv_aload_n hx hb dX10_column_7 rfl (lv_at hl 0 rfl) ?_
      refine mg_citizens hx hb hts hin hown hK hP (by decide +kernel) dX10_column_8 ?_
      refine lv_icmp_ge (tgt := 61) hx hb dX10_column_11 (by decide) (fun c_11 => ?_) (fun c_11 => ?_)
      · rw [hn, ex4] at c_11
        have hkn : k = n := by have := (nI_leI (by omega) (by omega)).mp c_11; omega
        refine lv_iload_n hx hb dX10_column_61 rfl (lv_at hl 3 rfl) ?_
        exact m_reti hx hb hr hlocks hAe hK hP hD hS rfl dX10_column_62 (⟨by rw [ex3, hkn], rfl⟩)
      · rw [hn, ex4] at c_11
        have hkn : k < n := Nat.not_le.mp (fun q => c_11 (nI_le q (by omega)))
        have hi : vp_in x4 150 := by rw [ex4]; exact vp_in_nI (by omega) (by omega)
        refine lv_iload_n hx hb dX10_column_14 rfl (lv_at hl 3 rfl) ?_
        refine lv_aload_n hx hb dX10_column_15 rfl (lv_at hl 0 rfl) ?_
        refine mg_tribe hx hb hts hin hown hK hP (by decide +kernel) dX10_column_16 ?_
        refine lv_iload hx hb dX10_column_19 (lv_at hl 4 rfl) ?_
        refine ml_tribe hx hb hK hP (hi) dX10_column_21 ?_
        refine lv_iload_n hx hb dX10_column_22 rfl (lv_at hl 1 rfl) ?_
        refine lv_icmp_ne (tgt := 52) hx hb dX10_column_23 (by decide) (fun c_23 => ?_) (fun c_23 => ?_)
        · rw [hc] at c_23
          refine lv_iconst (v := 0) hx hb dX10_column_52 (by decide) ?_
          refine lv_iadd hx hb dX10_column_53 ?_
          refine lv_topi (fun x3_1 ex3_1 => ?_)
          refine lv_istore_n (lv' := [(3, .int x3_1), (0, .ref h), (1, .int t), (2, .int w), (4, .int x4)]) hx hb dX10_column_54 rfl hl (by decide) rfl (fun ls hl => ?_)
          obtain ⟨x4_2, ex4_2⟩ : ∃ z : Int32, z = x4 + 1 := ⟨_, rfl⟩
          refine lv_iinc (v := x4_2) (lv' := [(4, .int x4_2), (3, .int x3_1), (0, .ref h), (1, .int t), (2, .int w)]) hx hb dX10_column_55 hl (k := 4) rfl (by rw [ex4_2]; rfl) (by decide) rfl (fun ls hl => ?_)
          refine lv_goto (tgt := 5) hx hb dX10_column_58 (by decide) ?_
          exact ih_5 (k + 1) _ _ (by omega) (by omega) (by rw [ex4_2, ex4]; exact nI_1 k) (by rw [ex3_1, ex3]; first | exact cnt_t (by simp [mColP, c_23]) | exact cnt_f (by simp [mColP, c_23])) _ _ hP hD hS _ (lv_sub hl [2, 3, 4, 1, 0] rfl)
        · rw [hc] at c_23
          refine lv_aload_n hx hb dX10_column_26 rfl (lv_at hl 0 rfl) ?_
          refine mg_letter hx hb hts hin hown hK hP (by decide +kernel) dX10_column_27 ?_
          refine lv_iload hx hb dX10_column_30 (lv_at hl 4 rfl) ?_
          refine ml_letter hx hb hK hP (hi) dX10_column_32 ?_
          refine lv_iload_n hx hb dX10_column_33 rfl (lv_at hl 2 rfl) ?_
          refine lv_icmp_ne (tgt := 52) hx hb dX10_column_34 (by decide) (fun c_34 => ?_) (fun c_34 => ?_)
          · rw [hc] at c_34
            refine lv_iconst (v := 0) hx hb dX10_column_52 (by decide) ?_
            refine lv_iadd hx hb dX10_column_53 ?_
            refine lv_topi (fun x3_3 ex3_3 => ?_)
            refine lv_istore_n (lv' := [(3, .int x3_3), (0, .ref h), (1, .int t), (2, .int w), (4, .int x4)]) hx hb dX10_column_54 rfl hl (by decide) rfl (fun ls hl => ?_)
            obtain ⟨x4_4, ex4_4⟩ : ∃ z : Int32, z = x4 + 1 := ⟨_, rfl⟩
            refine lv_iinc (v := x4_4) (lv' := [(4, .int x4_4), (3, .int x3_3), (0, .ref h), (1, .int t), (2, .int w)]) hx hb dX10_column_55 hl (k := 4) rfl (by rw [ex4_4]; rfl) (by decide) rfl (fun ls hl => ?_)
            refine lv_goto (tgt := 5) hx hb dX10_column_58 (by decide) ?_
            exact ih_5 (k + 1) _ _ (by omega) (by omega) (by rw [ex4_4, ex4]; exact nI_1 k) (by rw [ex3_3, ex3]; first | exact cnt_t (by simp [mColP, c_23, c_34]) | exact cnt_f (by simp [mColP, c_23, c_34])) _ _ hP hD hS _ (lv_sub hl [2, 3, 4, 1, 0] rfl)
          · rw [hc] at c_34
            refine lv_aload_n hx hb dX10_column_37 rfl (lv_at hl 0 rfl) ?_
            refine mg_place hx hb hts hin hown hK hP (by decide +kernel) dX10_column_38 ?_
            refine lv_iload hx hb dX10_column_41 (lv_at hl 4 rfl) ?_
            refine ml_place hx hb hK hP (hi) dX10_column_43 ?_
            refine lv_iconst (v := (-1)) hx hb dX10_column_44 (by decide) ?_
            refine lv_icmp_eq (tgt := 52) hx hb dX10_column_45 (by decide) (fun c_45 => ?_) (fun c_45 => ?_)
            · rw [hc] at c_45
              refine lv_iconst (v := 0) hx hb dX10_column_52 (by decide) ?_
              refine lv_iadd hx hb dX10_column_53 ?_
              refine lv_topi (fun x3_5 ex3_5 => ?_)
              refine lv_istore_n (lv' := [(3, .int x3_5), (0, .ref h), (1, .int t), (2, .int w), (4, .int x4)]) hx hb dX10_column_54 rfl hl (by decide) rfl (fun ls hl => ?_)
              obtain ⟨x4_6, ex4_6⟩ : ∃ z : Int32, z = x4 + 1 := ⟨_, rfl⟩
              refine lv_iinc (v := x4_6) (lv' := [(4, .int x4_6), (3, .int x3_5), (0, .ref h), (1, .int t), (2, .int w)]) hx hb dX10_column_55 hl (k := 4) rfl (by rw [ex4_6]; rfl) (by decide) rfl (fun ls hl => ?_)
              refine lv_goto (tgt := 5) hx hb dX10_column_58 (by decide) ?_
              exact ih_5 (k + 1) _ _ (by omega) (by omega) (by rw [ex4_6, ex4]; exact nI_1 k) (by rw [ex3_5, ex3]; first | exact cnt_t (by simp [mColP, c_23, c_34, c_45]) | exact cnt_f (by simp [mColP, c_23, c_34, c_45])) _ _ hP hD hS _ (lv_sub hl [2, 3, 4, 1, 0] rfl)
            · rw [hc] at c_45
              refine lv_iconst (v := 1) hx hb dX10_column_48 (by decide) ?_
              refine lv_goto (tgt := 53) hx hb dX10_column_49 (by decide) ?_
              refine lv_iadd hx hb dX10_column_53 ?_
              refine lv_topi (fun x3_7 ex3_7 => ?_)
              refine lv_istore_n (lv' := [(3, .int x3_7), (0, .ref h), (1, .int t), (2, .int w), (4, .int x4)]) hx hb dX10_column_54 rfl hl (by decide) rfl (fun ls hl => ?_)
              obtain ⟨x4_8, ex4_8⟩ : ∃ z : Int32, z = x4 + 1 := ⟨_, rfl⟩
              refine lv_iinc (v := x4_8) (lv' := [(4, .int x4_8), (3, .int x3_7), (0, .ref h), (1, .int t), (2, .int w)]) hx hb dX10_column_55 hl (k := 4) rfl (by rw [ex4_8]; rfl) (by decide) rfl (fun ls hl => ?_)
              refine lv_goto (tgt := 5) hx hb dX10_column_58 (by decide) ?_
              exact ih_5 (k + 1) _ _ (by omega) (by omega) (by rw [ex4_8, ex4]; exact nI_1 k) (by rw [ex3_7, ex3]; first | exact cnt_t (by simp [mColP, c_23, c_34, c_45]) | exact cnt_f (by simp [mColP, c_23, c_34, c_45])) _ _ hP hD hS _ (lv_sub hl [2, 3, 4, 1, 0] rfl)
  exact lp_5 (n + 1) 0 _ _ (Nat.zero_le _) (by omega) rfl rfl _ _ hP hD hS _ (lv_sub hl [2, 3, 4, 1, 0] rfl)
def mMin (v : mS) (t : Int32) (n : Nat) : Nat → Nat
  | 0 => cnt (mColP v t 0) n
  | w + 1 => if cnt (mColP v t (nI (w + 1))) n < mMin v t n w then cnt (mColP v t (nI (w + 1))) n else mMin v t n w
theorem mMin_le (v : mS) (t : Int32) (n w : Nat) : mMin v t n w ≤ n := by
  induction w with
  | zero => exact cnt_le _ _
  | succ w ih =>
    rw [mMin]
    split
    · exact cnt_le _ _
    · exact ih
def mRows (v : mS) (t : Int32) (n : Nat) : Nat := mMin v t n 4
set_option maxHeartbeats 4000000 in
set_option maxRecDepth 100000 in
/-- rowsOf(t) -/
theorem ctX10_rowsOf (l : Launch) (D : va_G) (y : Nat → ClassId) (h : Nat) (a : Nat → Nat) (v : mS) (t : Int32) (n : Nat) (hn : v.1 15 = nI n) (hn1 : n ≤ 150) : mMi l yX10_rowsOf wsX10_rowsOf ({ frames := 1, cells := 0, slots := 0, locals := 24 }) D y h a v [.ref h, .int t] (fun r v' => r = nI (mRows v t n) ∧ v' = v) := by
  refine mMi_of (cc := cX10_rowsOf) (maxL := 4) (ret := (some .int)) rfl rfl (Nat.le_of_ble_eq_true rfl) ?_
  intro p e s m below meth c A ls hat hAe hl
  obtain ⟨hx, hb, hr, hml, hts, hown, hlocks, hK, hP, hD, hA⟩ := hat
  have hin : ∀ w ∈ wsX100, w ∈ wsX10_rowsOf := fun _ h9 => List.mem_cons_of_mem _ (List.mem_append_right _ h9)
  have hl : lv_has ls 4 [(0, .ref h), (1, .int t)] := hl
  have hS : va_S A s.heap s.heap [] := va_S.rf
  refine lv_aload_n hx hb dX10_rowsOf_0 rfl (lv_at hl 0 rfl) ?_
  refine lv_iload_n hx hb dX10_rowsOf_1 rfl (lv_at hl 1 rfl) ?_
  refine lv_iconst (v := 0) hx hb dX10_rowsOf_2 (by decide) ?_
  refine m_callip (As := [.int t, .int 0]) (rest := []) ⟨hx, hb, hml, hown, hts⟩ (ctX10_column l D y h a v t 0 n hn hn1) (cwV 2 hts gX10_rowsOf_X10_column rfl rfl rfl (by decide +kernel) ⟨Nat.le_of_ble_eq_true rfl, Nat.le_of_ble_eq_true rfl⟩) hK hP hD hS hA rfl hl.1 rfl (Nat.le_of_ble_eq_true rfl) dX10_rowsOf_3 ⟨Nat.zero_le _, Nat.zero_le _⟩ (fun H locs hP hD hS => ?_)
  refine lv_topi (fun r3 er3 => ?_)
  refine lv_istore_n (lv' := [(2, .int r3), (0, .ref h), (1, .int t)]) hx hb dX10_rowsOf_6 rfl hl (by decide) rfl (fun ls hl => ?_)
  refine lv_iconst (v := 1) hx hb dX10_rowsOf_7 (by decide) ?_
  refine lv_istore_n (lv' := [(3, .int 1), (2, .int r3), (0, .ref h), (1, .int t)]) hx hb dX10_rowsOf_8 rfl hl (by decide) rfl (fun ls hl => ?_)
  have lp_9 : ∀ (n_9 : Nat) (k : Nat) (x2 : Int32) (x3 : Int32), (k ≤ 4) → (5 ≤ k + n_9) → (x3 = nI (k + 1)) → (x2 = nI (mMin v t n k)) → ∀ (H : Heap) (locs : List Loc), va_P D vwCl (mW h a y v) H → va_D A (mW h a y v) → va_S A s.heap H locs → ∀ (ls : Array Slot), lv_has ls 4 [(0, .ref h), (1, .int t), (2, .int x2), (3, .int x3)] → W p l e (headSpec wsX10_rowsOf ({ frames := 1, cells := 0, slots := 0, locals := 24 })).room s m ([.ref h, .int t] : List Value).toArray below meth c H locs 0 0 (MQ below (va_Qi (fun r v' => r = nI (mRows v t n) ∧ v' = v) (mEnd D y h a s.heap.size) A) ([.ref h, .int t] : List Value).toArray s 0 0 A) (F0 m 9 ls []) := by
    intro n_9
    induction n_9 with
    | zero =>
      intro k x2 x3 hk hf ex3 ex2
      exact absurd hf (by omega)
    | succ n_9 ih_9 =>
      intro k x2 x3 hk hf ex3 ex2 H locs hP hD hS ls hl
      refine lv_iload_n hx hb dX10_rowsOf_9 rfl (lv_at hl 3 rfl) ?_
      refine lv_iconst (v := 5) hx hb dX10_rowsOf_10 (by decide) ?_
      refine lv_icmp_ge (tgt := 41) hx hb dX10_rowsOf_11 (by decide) (fun c_11 => ?_) (fun c_11 => ?_)
      · have hk4 : k = 4 := by rw [ex3] at c_11; have := (nI_leI (a := 5) (by omega) (by omega)).mp c_11; omega
        refine lv_iload_n hx hb dX10_rowsOf_41 rfl (lv_at hl 2 rfl) ?_
        exact m_reti hx hb hr hlocks hAe hK hP hD hS rfl dX10_rowsOf_42 (⟨by rw [ex2, hk4]; rfl, rfl⟩)
      · have hk4 : k < 4 := by rw [ex3] at c_11; have h9 : ¬ 5 ≤ k + 1 := fun q => c_11 (nI_le (a := 5) q (by omega)); omega
        refine lv_aload_n hx hb dX10_rowsOf_14 rfl (lv_at hl 0 rfl) ?_
        refine lv_iload_n hx hb dX10_rowsOf_15 rfl (lv_at hl 1 rfl) ?_
        refine lv_iload_n hx hb dX10_rowsOf_16 rfl (lv_at hl 3 rfl) ?_
        refine m_callip (As := [.int t, .int x3]) (rest := []) ⟨hx, hb, hml, hown, hts⟩ (ctX10_column l D y h a v t x3 n hn hn1) (cwV 2 hts gX10_rowsOf_X10_column rfl rfl rfl (by decide +kernel) ⟨Nat.le_of_ble_eq_true rfl, Nat.le_of_ble_eq_true rfl⟩) hK hP hD hS hA rfl hl.1 rfl (Nat.le_of_ble_eq_true rfl) dX10_rowsOf_17 ⟨Nat.zero_le _, Nat.zero_le _⟩ (fun H locs hP hD hS => ?_)
        refine lv_topi (fun r17 er17 => ?_)
        refine lv_iload_n hx hb dX10_rowsOf_20 rfl (lv_at hl 2 rfl) ?_
        refine lv_icmp_ge (tgt := 33) hx hb dX10_rowsOf_21 (by decide) (fun c_21 => ?_) (fun c_21 => ?_)
        · have h21 : ¬ cnt (mColP v t (nI (k + 1))) n < mMin v t n k := by rw [er17, ex2, ex3] at c_21; have h5 := (nI_leI (by have := mMin_le v t n k; omega) (by have := cnt_le (mColP v t (nI (k + 1))) n; omega)).mp c_21; omega
          refine lv_iload_n hx hb dX10_rowsOf_33 rfl (lv_at hl 2 rfl) ?_
          refine lv_istore_n (lv' := [(2, .int x2), (0, .ref h), (1, .int t), (3, .int x3)]) hx hb dX10_rowsOf_34 rfl hl (by decide) rfl (fun ls hl => ?_)
          obtain ⟨x3_1, ex3_1⟩ : ∃ z : Int32, z = x3 + 1 := ⟨_, rfl⟩
          refine lv_iinc (v := x3_1) (lv' := [(3, .int x3_1), (2, .int x2), (0, .ref h), (1, .int t)]) hx hb dX10_rowsOf_35 hl (k := 3) rfl (by rw [ex3_1]; rfl) (by decide) rfl (fun ls hl => ?_)
          refine lv_goto (tgt := 9) hx hb dX10_rowsOf_38 (by decide) ?_
          exact ih_9 (k + 1) _ _ (by omega) (by omega) (by rw [ex3_1, ex3]; exact nI_1 _) (by rw [ex2, mMin, if_neg h21]) _ _ hP hD hS _ (lv_sub hl [2, 3, 1, 0] rfl)
        · have h21 : cnt (mColP v t (nI (k + 1))) n < mMin v t n k := by rw [er17, ex2, ex3] at c_21; exact Nat.not_le.mp (fun q => c_21 (nI_le q (by have := cnt_le (mColP v t (nI (k + 1))) n; omega)))
          refine lv_aload_n hx hb dX10_rowsOf_24 rfl (lv_at hl 0 rfl) ?_
          refine lv_iload_n hx hb dX10_rowsOf_25 rfl (lv_at hl 1 rfl) ?_
          refine lv_iload_n hx hb dX10_rowsOf_26 rfl (lv_at hl 3 rfl) ?_
          refine m_callip (As := [.int t, .int x3]) (rest := []) ⟨hx, hb, hml, hown, hts⟩ (ctX10_column l D y h a v t x3 n hn hn1) (cwV 2 hts gX10_rowsOf_X10_column rfl rfl rfl (by decide +kernel) ⟨Nat.le_of_ble_eq_true rfl, Nat.le_of_ble_eq_true rfl⟩) hK hP hD hS hA rfl hl.1 rfl (Nat.le_of_ble_eq_true rfl) dX10_rowsOf_27 ⟨Nat.zero_le _, Nat.zero_le _⟩ (fun H locs hP hD hS => ?_)
          refine lv_topi (fun r27 er27 => ?_)
          refine lv_goto (tgt := 34) hx hb dX10_rowsOf_30 (by decide) ?_
          refine lv_istore_n (lv' := [(2, .int r27), (0, .ref h), (1, .int t), (3, .int x3)]) hx hb dX10_rowsOf_34 rfl hl (by decide) rfl (fun ls hl => ?_)
          obtain ⟨x3_2, ex3_2⟩ : ∃ z : Int32, z = x3 + 1 := ⟨_, rfl⟩
          refine lv_iinc (v := x3_2) (lv' := [(3, .int x3_2), (2, .int r27), (0, .ref h), (1, .int t)]) hx hb dX10_rowsOf_35 hl (k := 3) rfl (by rw [ex3_2]; rfl) (by decide) rfl (fun ls hl => ?_)
          refine lv_goto (tgt := 9) hx hb dX10_rowsOf_38 (by decide) ?_
          exact ih_9 (k + 1) _ _ (by omega) (by omega) (by rw [ex3_2, ex3]; exact nI_1 _) (by rw [er27, ex3, mMin, if_pos h21]) _ _ hP hD hS _ (lv_sub hl [2, 3, 1, 0] rfl)
  exact lp_9 5 0 _ _ (Nat.zero_le _) (by omega) rfl er3 _ _ hP hD hS _ (lv_sub hl [2, 3, 1, 0] rfl)
/-- the first below n with p, else n -/
def fstn (p : Nat → Bool) : Nat → Nat → Nat
  | 0, k => k
  | n + 1, k => if p k then k else fstn p n (k + 1)
def fInt (p : Nat → Bool) (n : Nat) : Int32 := if fstn p n 0 < n then nI (fstn p n 0) else -1
theorem fstn_hit {p : Nat → Bool} : ∀ (n k j : Nat), (∀ i, k ≤ i → i < j → p i = false) → k ≤ j → j < k + n → p j = true → fstn p n k = j
  | 0, k, j, _, h1, h2, _ => by omega
  | n + 1, k, j, h0, h1, h2, h3 => by
    rw [fstn]
    by_cases h : k = j
    · subst h; rw [h3]; rfl
    · rw [h0 k (Nat.le_refl _) (by omega)]
      simp only [Bool.false_eq_true, if_false]
      exact fstn_hit n (k + 1) j (fun i hi hj => h0 i (by omega) hj) (by omega) (by omega) h3
theorem fstn_miss {p : Nat → Bool} : ∀ (n k : Nat), (∀ i, k ≤ i → i < k + n → p i = false) → fstn p n k = k + n
  | 0, k, _ => rfl
  | n + 1, k, h0 => by
    rw [fstn, h0 k (Nat.le_refl _) (by omega)]
    simp only [Bool.false_eq_true, if_false]
    rw [fstn_miss n (k + 1) (fun i hi hj => h0 i (by omega) (by omega))]
    omega
theorem fInt_hit {p : Nat → Bool} {n j : Nat} (h0 : ∀ i, i < j → p i = false) (hj : j < n) (h : p j = true) : fInt p n = nI j := by
  unfold fInt
  rw [fstn_hit n 0 j (fun i _ hi => h0 i hi) (Nat.zero_le _) (by omega) h, if_pos hj]
theorem fInt_miss {p : Nat → Bool} {n : Nat} (h0 : ∀ i, i < n → p i = false) : fInt p n = -1 := by
  unfold fInt
  rw [fstn_miss n 0 (fun i _ hi => h0 i (by omega)), if_neg (by omega)]
theorem lt_sb {p : Nat → Bool} {k : Nat} (h : ∀ i, i < k → p i = false) (hk : p k = false) : ∀ i, i < k + 1 → p i = false := fun i hi => by
  rcases Nat.lt_or_ge i k with q | q
  · exact h i q
  · rw [show i = k by omega]; exact hk
def mAtP (v : mS) (t w r : Int32) (i : Nat) : Bool := decide (v.2.1 16 i = t) && (decide (v.2.1 17 i = w) && decide (v.2.1 22 i = r))
set_option maxHeartbeats 4000000 in
set_option maxRecDepth 100000 in
/-- at(t, w, r) -/
theorem ctX10_at (l : Launch) (D : va_G) (y : Nat → ClassId) (h : Nat) (a : Nat → Nat) (v : mS) (t w r : Int32) (n : Nat) (hn : v.1 15 = nI n) (hn1 : n ≤ 150) : mMi l yX10_at wsX10_at ({ frames := 0, cells := 0, slots := 0, locals := 0 }) D y h a v [.ref h, .int t, .int w, .int r] (fun r' v' => r' = fInt (mAtP v t w r) n ∧ v' = v) := by
  refine mMi_of (cc := cX10_at) (maxL := 5) (ret := (some .int)) rfl rfl (Nat.le_of_ble_eq_true rfl) ?_
  intro p e s m below meth c A ls hat hAe hl
  obtain ⟨hx, hb, hr, hml, hts, hown, hlocks, hK, hP, hD, hA⟩ := hat
  have hin : ∀ w ∈ wsX100, w ∈ wsX10_at := fun _ h9 => List.mem_cons_of_mem _ (List.mem_append_right _ h9)
  have hl : lv_has ls 5 [(0, .ref h), (1, .int t), (2, .int w), (3, .int r)] := hl
  have hS : va_S A s.heap s.heap [] := va_S.rf
  refine lv_iconst (v := 0) hx hb dX10_at_0 (by decide) ?_
  refine lv_istore (lv' := [(4, .int 0), (0, .ref h), (1, .int t), (2, .int w), (3, .int r)]) hx hb dX10_at_1 hl (by decide) rfl (fun ls hl => ?_)
  have lp_3 : ∀ (n_3 : Nat) (k : Nat) (x4 : Int32), (k ≤ n) → (n + 1 ≤ k + n_3) → (x4 = nI k) → (∀ i, i < k → mAtP v t w r i = false) → ∀ (H : Heap) (locs : List Loc), va_P D vwCl (mW h a y v) H → va_D A (mW h a y v) → va_S A s.heap H locs → ∀ (ls : Array Slot), lv_has ls 5 [(0, .ref h), (1, .int t), (2, .int w), (3, .int r), (4, .int x4)] → W p l e (headSpec wsX10_at ({ frames := 0, cells := 0, slots := 0, locals := 0 })).room s m ([.ref h, .int t, .int w, .int r] : List Value).toArray below meth c H locs 0 0 (MQ below (va_Qi (fun r' v' => r' = fInt (mAtP v t w r) n ∧ v' = v) (mEnd D y h a s.heap.size) A) ([.ref h, .int t, .int w, .int r] : List Value).toArray s 0 0 A) (F0 m 3 ls []) := by
    intro n_3
    induction n_3 with
    | zero =>
      intro k x4 hk hf ex4 hno
      exact absurd hf (by omega)
    | succ n_3 ih_3 =>
      intro k x4 hk hf ex4 hno H locs hP hD hS ls hl
      have hc : x4.toNatClampNeg = k := by rw [ex4]; exact nI_clamp (by omega)
      refine lv_iload hx hb dX10_at_3 (lv_at hl 4 rfl) ?_
      refine lv_aload_n hx hb dX10_at_5 rfl (lv_at hl 0 rfl) ?_
      refine mg_citizens hx hb hts hin hown hK hP (by decide +kernel) dX10_at_6 ?_
      refine lv_icmp_ge (tgt := 54) hx hb dX10_at_9 (by decide) (fun c_9 => ?_) (fun c_9 => ?_)
      · rw [hn, ex4] at c_9
        have hkn : k = n := by have := (nI_leI (by omega) (by omega)).mp c_9; omega
        refine lv_iconst (v := (-1)) hx hb dX10_at_54 (by decide) ?_
        exact m_reti hx hb hr hlocks hAe hK hP hD hS rfl dX10_at_55 (⟨(fInt_miss (by rw [← hkn]; exact hno)).symm, rfl⟩)
      · rw [hn, ex4] at c_9
        have hkn : k < n := Nat.not_le.mp (fun q => c_9 (nI_le q (by omega)))
        have hi : vp_in x4 150 := by rw [ex4]; exact vp_in_nI (by omega) (by omega)
        refine lv_aload_n hx hb dX10_at_12 rfl (lv_at hl 0 rfl) ?_
        refine mg_tribe hx hb hts hin hown hK hP (by decide +kernel) dX10_at_13 ?_
        refine lv_iload hx hb dX10_at_16 (lv_at hl 4 rfl) ?_
        refine ml_tribe hx hb hK hP (hi) dX10_at_18 ?_
        refine lv_iload_n hx hb dX10_at_19 rfl (lv_at hl 1 rfl) ?_
        refine lv_icmp_ne (tgt := 48) hx hb dX10_at_20 (by decide) (fun c_20 => ?_) (fun c_20 => ?_)
        · rw [hc] at c_20
          obtain ⟨x4_1, ex4_1⟩ : ∃ z : Int32, z = x4 + 1 := ⟨_, rfl⟩
          refine lv_iinc (v := x4_1) (lv' := [(4, .int x4_1), (0, .ref h), (1, .int t), (2, .int w), (3, .int r)]) hx hb dX10_at_48 hl (k := 4) rfl (by rw [ex4_1]; rfl) (by decide) rfl (fun ls hl => ?_)
          refine lv_goto (tgt := 3) hx hb dX10_at_51 (by decide) ?_
          exact ih_3 (k + 1) _ (by omega) (by omega) (by rw [ex4_1, ex4]; exact nI_1 k) (lt_sb hno (by simp [mAtP, c_20])) _ _ hP hD hS _ (lv_sub hl [1, 2, 3, 4, 0] rfl)
        · rw [hc] at c_20
          refine lv_aload_n hx hb dX10_at_23 rfl (lv_at hl 0 rfl) ?_
          refine mg_letter hx hb hts hin hown hK hP (by decide +kernel) dX10_at_24 ?_
          refine lv_iload hx hb dX10_at_27 (lv_at hl 4 rfl) ?_
          refine ml_letter hx hb hK hP (hi) dX10_at_29 ?_
          refine lv_iload_n hx hb dX10_at_30 rfl (lv_at hl 2 rfl) ?_
          refine lv_icmp_ne (tgt := 48) hx hb dX10_at_31 (by decide) (fun c_31 => ?_) (fun c_31 => ?_)
          · rw [hc] at c_31
            obtain ⟨x4_2, ex4_2⟩ : ∃ z : Int32, z = x4 + 1 := ⟨_, rfl⟩
            refine lv_iinc (v := x4_2) (lv' := [(4, .int x4_2), (0, .ref h), (1, .int t), (2, .int w), (3, .int r)]) hx hb dX10_at_48 hl (k := 4) rfl (by rw [ex4_2]; rfl) (by decide) rfl (fun ls hl => ?_)
            refine lv_goto (tgt := 3) hx hb dX10_at_51 (by decide) ?_
            exact ih_3 (k + 1) _ (by omega) (by omega) (by rw [ex4_2, ex4]; exact nI_1 k) (lt_sb hno (by simp [mAtP, c_20, c_31])) _ _ hP hD hS _ (lv_sub hl [1, 2, 3, 4, 0] rfl)
          · rw [hc] at c_31
            refine lv_aload_n hx hb dX10_at_34 rfl (lv_at hl 0 rfl) ?_
            refine mg_place hx hb hts hin hown hK hP (by decide +kernel) dX10_at_35 ?_
            refine lv_iload hx hb dX10_at_38 (lv_at hl 4 rfl) ?_
            refine ml_place hx hb hK hP (hi) dX10_at_40 ?_
            refine lv_iload_n hx hb dX10_at_41 rfl (lv_at hl 3 rfl) ?_
            refine lv_icmp_ne (tgt := 48) hx hb dX10_at_42 (by decide) (fun c_42 => ?_) (fun c_42 => ?_)
            · rw [hc] at c_42
              obtain ⟨x4_3, ex4_3⟩ : ∃ z : Int32, z = x4 + 1 := ⟨_, rfl⟩
              refine lv_iinc (v := x4_3) (lv' := [(4, .int x4_3), (0, .ref h), (1, .int t), (2, .int w), (3, .int r)]) hx hb dX10_at_48 hl (k := 4) rfl (by rw [ex4_3]; rfl) (by decide) rfl (fun ls hl => ?_)
              refine lv_goto (tgt := 3) hx hb dX10_at_51 (by decide) ?_
              exact ih_3 (k + 1) _ (by omega) (by omega) (by rw [ex4_3, ex4]; exact nI_1 k) (lt_sb hno (by simp [mAtP, c_20, c_31, c_42])) _ _ hP hD hS _ (lv_sub hl [1, 2, 3, 4, 0] rfl)
            · rw [hc] at c_42
              refine lv_iload hx hb dX10_at_45 (lv_at hl 4 rfl) ?_
              exact m_reti hx hb hr hlocks hAe hK hP hD hS rfl dX10_at_47 (⟨by rw [ex4]; exact (fInt_hit hno hkn (by simp [mAtP, c_20, c_31, c_42])).symm, rfl⟩)
  exact lp_3 (n + 1) 0 _ (Nat.zero_le _) (by omega) rfl (fun i hi => absurd hi (Nat.not_lt_zero _)) _ _ hP hD hS _ (lv_sub hl [1, 2, 3, 4, 0] rfl)
