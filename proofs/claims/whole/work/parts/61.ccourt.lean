/-! the landed program: Court; small methods of Suit -/
theorem cI_r (x : cS) (κ i s : Nat) (v : Int32) (a b c : Nat) : (cI x κ i s v).1 a b c = if a = κ ∧ b = i ∧ c = s then v else x.1 a b c := rfl
theorem cI_l (x : cS) (κ i s : Nat) (v : Int32) : (cI x κ i s v).2 = x.2 := rfl
theorem cL_r (x : cS) (κ i s : Nat) (v : Int64) (a b c : Nat) : (cL x κ i s v).2.1 a b c = if a = κ ∧ b = i ∧ c = s then v else x.2.1 a b c := rfl
theorem cL_l (x : cS) (κ i s : Nat) (v : Int64) : (cL x κ i s v).1 = x.1 := rfl
theorem cO_r (x : cS) (κ i s : Nat) (v : Option Nat) (a b c : Nat) : (cO x κ i s v).2.2 a b c = if a = κ ∧ b = i ∧ c = s then v else x.2.2 a b c := rfl
theorem cO_l (x : cS) (κ i s : Nat) (v : Option Nat) : (cO x κ i s v).1 = x.1 := rfl
theorem isC_lt {n : Nat} {t : Int32} (hn : n < 2 ^ 31) (h0 : ¬ t < 0) (h1 : ¬ nI n ≤ t) : isC n t = true ∧ sI t < n ∧ t = nI (sI t) := by
  obtain ⟨j, hj, e⟩ := nI_of h0
  have hjn : j < n := Nat.not_le.mp (fun q => h1 (by rw [e]; exact nI_le q hj))
  have hs : sI t = j := by rw [e]; exact nI_clamp hj
  exact ⟨(inR_c hn).mpr ⟨j, hjn, e⟩, by rw [hs]; exact hjn, by rw [hs]; exact e⟩
theorem isC_neg {n : Nat} {t : Int32} (hn : n < 2 ^ 31) (h0 : t < 0) : isC n t = false := by
  refine (inR_f hn).mpr (fun c hc e => ?_)
  rw [e] at h0
  exact nI_pos (by omega) h0
theorem isC_ge {n : Nat} {t : Int32} (hn : n < 2 ^ 31) (h1 : nI n ≤ t) : isC n t = false := by
  refine (inR_f hn).mpr (fun c hc e => ?_)
  rw [e] at h1
  exact nI_ge hc hn h1
theorem sn_in {t : Int32} {n N : Nat} (e : t = nI (sI t)) (h : sI t < n) (hN : n ≤ N) (h2 : N < 2 ^ 31) : vp_in t N := by
  rw [e]; exact vp_in_nI (by omega) h2
set_option maxHeartbeats 4000000 in
set_option maxRecDepth 100000 in
/-- Court.isFull -/
theorem ctX2_isFull (l : Launch) (D : va_G) (y : Nat → ClassId) (ad : Nat → Nat → Nat) (x : cS) (R : List (Nat × Nat)) (qs : Nat → Nat × Nat) (nC nT : Nat) (hR : cHas R nC nT) (k : Nat) (hk5 : k < 5) : cMi l yX2_isFull wsX2_isFull ({ frames := 0, cells := 0, slots := 0, locals := 0 }) D y ad x R qs [.ref (ad 18 k)] (fun r x' => r = zI (decide (x.1 18 k 2 ≤ x.1 18 k 3)) ∧ x' = x) := by
  refine cMi_of (cc := cX2_isFull) (maxL := 1) (ret := (some .boolean)) (by decide) rfl (Nat.le_of_ble_eq_true rfl) ?_
  intro p e s m below meth c A ls hat hAe hl
  obtain ⟨hx, hb, hr, hml, hts, hown, hlocks, hK, hP, hD, hA, hE⟩ := hat
  have hown : s.vm.findClass RX2 = some m.cls := hown
  have hin2 : ∀ w ∈ wsX20, w ∈ wsX2_isFull := fun _ h9 => List.mem_cons_of_mem _ (List.mem_append_right _ h9)
  have hl : lv_has ls 1 [(0, .ref (ad 18 k))] := hl
  have hS : va_S A s.heap s.heap [] := va_S.rf
  refine lv_aload_n hx hb dX2_isFull_0 rfl (lv_at hl 0 rfl) ?_
  refine cg_X2_sitting (i := k) hx hb hts hin2 hown hK hP ((hR 18 (k)).mpr hk5) (by decide +kernel) dX2_isFull_1 ?_
  refine lv_aload_n hx hb dX2_isFull_4 rfl (lv_at hl 0 rfl) ?_
  refine cg_X2_size (i := k) hx hb hts hin2 hown hK hP ((hR 18 (k)).mpr hk5) (by decide +kernel) dX2_isFull_5 ?_
  refine lv_icmp_lt (tgt := 15) hx hb dX2_isFull_8 (by decide) (fun c_8 => ?_) (fun c_8 => ?_)
  · refine lv_iconst (v := 0) hx hb dX2_isFull_15 (by decide) ?_
    exact c_reti hx hb hr hlocks hAe hK hP hD hS (by first | rfl | decide) dX2_isFull_16 (⟨by simp [zI, c_8, Int32.not_le.mpr c_8], rfl⟩)
  · refine lv_iconst (v := 1) hx hb dX2_isFull_11 (by decide) ?_
    refine lv_goto (tgt := 16) hx hb dX2_isFull_12 (by decide) ?_
    exact c_reti hx hb hr hlocks hAe hK hP hD hS (by first | rfl | decide) dX2_isFull_16 (⟨by simp [zI, c_8, Int32.not_lt.mp c_8], rfl⟩)
set_option maxHeartbeats 4000000 in
set_option maxRecDepth 100000 in
/-- Court.take -/
theorem ctX2_take (l : Launch) (D : va_G) (y : Nat → ClassId) (ad : Nat → Nat → Nat) (x : cS) (R : List (Nat × Nat)) (qs : Nat → Nat × Nat) (nC nT : Nat) (hR : cHas R nC nT) (k : Nat) (q : Int32) (n : Nat) (hk5 : k < 5) (hs : x.1 18 k 3 = nI n) (hn : n ≤ 25) : cMv l yX2_take wsX2_take ({ frames := 0, cells := 0, slots := 0, locals := 0 }) D y ad x R qs [.ref (ad 18 k), .int q] (fun x' => x' = if n < 25 then cI (cI x 19 k n q) 18 k 3 (nI (n + 1)) else x) := by
  refine cMv_of (cc := cX2_take) (maxL := 2) (ret := none) (by decide) rfl (Nat.le_of_ble_eq_true rfl) ?_
  intro p e s m below meth c A ls hat hAe hl
  obtain ⟨hx, hb, hr, hml, hts, hown, hlocks, hK, hP, hD, hA, hE⟩ := hat
  have hown : s.vm.findClass RX2 = some m.cls := hown
  have hin2 : ∀ w ∈ wsX20, w ∈ wsX2_take := fun _ h9 => List.mem_cons_of_mem _ (List.mem_append_right _ h9)
  have hl : lv_has ls 2 [(0, .ref (ad 18 k)), (1, .int q)] := hl
  have hS : va_S A s.heap s.heap [] := va_S.rf
  refine lv_aload_n hx hb dX2_take_0 rfl (lv_at hl 0 rfl) ?_
  refine cg_X2_sitting (i := k) hx hb hts hin2 hown hK hP ((hR 18 (k)).mpr hk5) (by decide +kernel) dX2_take_1 ?_
  refine lv_bipush (v := 25) hx hb dX2_take_4 (by decide) ?_
  refine lv_icmp_ge (tgt := 29) hx hb dX2_take_6 (by decide) (fun c_6 => ?_) (fun c_6 => ?_)
  · have h6 : ¬ n < 25 := by rw [hs] at c_6; have := (nI_leI (a := 25) (by omega) (by omega)).mp c_6; omega
    exact c_retv hx hb hr hlocks hAe hK hP hD hS dX2_take_29 (by rw [if_neg h6])
  · have h6 : n < 25 := by rw [hs] at c_6; exact Nat.not_le.mp (fun q9 => c_6 (nI_le (a := 25) q9 (by omega)))
    refine lv_aload_n hx hb dX2_take_9 rfl (lv_at hl 0 rfl) ?_
    refine cg_X2_seats (i := k) hx hb hts hin2 hown hK hP ((hR 18 (k)).mpr hk5) (by decide +kernel) dX2_take_10 ?_
    refine lv_aload_n hx hb dX2_take_13 rfl (lv_at hl 0 rfl) ?_
    refine cg_X2_sitting (i := k) hx hb hts hin2 hown hK hP ((hR 18 (k)).mpr hk5) (by decide +kernel) dX2_take_14 ?_
    refine lv_iload_n hx hb dX2_take_17 rfl (lv_at hl 1 rfl) ?_
    refine cs_int 19 (k) 25 hx hb hK hP hD hS ((hR 19 (k)).mpr hk5) (fun _ _ _ => rfl) (by rw [hs]; exact vp_in_nI h6 (by omega)) dX2_take_18 (fun H locs hP hD hS => ?_)
    rw [hs, nI_clamp (by omega)] at hP hD
    refine lv_aload_n hx hb dX2_take_19 rfl (lv_at hl 0 rfl) ?_
    refine lv_dup hx hb dX2_take_20 rfl ?_
    refine cg_X2_sitting (i := k) hx hb hts hin2 hown hK hP ((hR 18 (k)).mpr hk5) (by decide +kernel) dX2_take_21 ?_
    refine lv_iconst (v := 1) hx hb dX2_take_24 (by decide) ?_
    refine lv_iadd hx hb dX2_take_25 ?_
    refine cp_X2_sitting (i := k) hx hb hts hin2 hown hK hP hD hS ((hR 18 (k)).mpr hk5) (by decide +kernel) dX2_take_26 (fun H locs hP hD hS => ?_)
    exact c_retv hx hb hr hlocks hAe hK hP hD hS dX2_take_29 (by rw [if_pos h6, show (cI x 19 k n q).1 18 k 3 = nI n by simp [cI_r, hs], nI_1])
set_option maxHeartbeats 4000000 in
set_option maxRecDepth 100000 in
/-- Court.sitterAt -/
theorem ctX2_sitterAt (l : Launch) (D : va_G) (y : Nat → ClassId) (ad : Nat → Nat → Nat) (x : cS) (R : List (Nat × Nat)) (qs : Nat → Nat × Nat) (nC nT : Nat) (hR : cHas R nC nT) (k : Nat) (i : Int32) (n : Nat) (hk5 : k < 5) (hs : x.1 18 k 3 = nI n) (hn : n ≤ 25) : cMi l yX2_sitterAt wsX2_sitterAt ({ frames := 0, cells := 0, slots := 0, locals := 0 }) D y ad x R qs [.ref (ad 18 k), .int i] (fun r x' => r = (if isC n i then x.1 19 k (sI i) else -1) ∧ x' = x) := by
  refine cMi_of (cc := cX2_sitterAt) (maxL := 2) (ret := (some .int)) (by decide) rfl (Nat.le_of_ble_eq_true rfl) ?_
  intro p e s m below meth c A ls hat hAe hl
  obtain ⟨hx, hb, hr, hml, hts, hown, hlocks, hK, hP, hD, hA, hE⟩ := hat
  have hown : s.vm.findClass RX2 = some m.cls := hown
  have hin2 : ∀ w ∈ wsX20, w ∈ wsX2_sitterAt := fun _ h9 => List.mem_cons_of_mem _ (List.mem_append_right _ h9)
  have hl : lv_has ls 2 [(0, .ref (ad 18 k)), (1, .int i)] := hl
  have hS : va_S A s.heap s.heap [] := va_S.rf
  refine lv_iload_n hx hb dX2_sitterAt_0 rfl (lv_at hl 1 rfl) ?_
  refine lv_if_lt (tgt := 21) hx hb dX2_sitterAt_1 (by decide) (fun c_1 => ?_) (fun c_1 => ?_)
  · refine lv_iconst (v := (-1)) hx hb dX2_sitterAt_21 (by decide) ?_
    exact c_reti hx hb hr hlocks hAe hK hP hD hS rfl dX2_sitterAt_22 (⟨by rw [if_neg (by rw [isC_neg (by omega) c_1]; decide)], rfl⟩)
  · refine lv_iload_n hx hb dX2_sitterAt_4 rfl (lv_at hl 1 rfl) ?_
    refine lv_aload_n hx hb dX2_sitterAt_5 rfl (lv_at hl 0 rfl) ?_
    refine cg_X2_sitting (i := k) hx hb hts hin2 hown hK hP ((hR 18 (k)).mpr hk5) (by decide +kernel) dX2_sitterAt_6 ?_
    refine lv_icmp_ge (tgt := 21) hx hb dX2_sitterAt_9 (by decide) (fun c_9 => ?_) (fun c_9 => ?_)
    · rw [hs] at c_9
      refine lv_iconst (v := (-1)) hx hb dX2_sitterAt_21 (by decide) ?_
      exact c_reti hx hb hr hlocks hAe hK hP hD hS rfl dX2_sitterAt_22 (⟨by rw [if_neg (by rw [isC_ge (by omega) c_9]; decide)], rfl⟩)
    · rw [hs] at c_9
      obtain ⟨g1, g2, g3⟩ := isC_lt (by omega) c_1 c_9
      refine lv_aload_n hx hb dX2_sitterAt_12 rfl (lv_at hl 0 rfl) ?_
      refine cg_X2_seats (i := k) hx hb hts hin2 hown hK hP ((hR 18 (k)).mpr hk5) (by decide +kernel) dX2_sitterAt_13 ?_
      refine lv_iload_n hx hb dX2_sitterAt_16 rfl (lv_at hl 1 rfl) ?_
      refine cl_int 19 (k) 25 hx hb hK hP ((hR 19 (k)).mpr hk5) (fun _ _ _ => rfl) (sn_in g3 g2 hn (by omega)) dX2_sitterAt_17 ?_
      refine lv_goto (tgt := 22) hx hb dX2_sitterAt_18 (by decide) ?_
      exact c_reti hx hb hr hlocks hAe hK hP hD hS rfl dX2_sitterAt_22 (⟨by rw [if_pos g1], rfl⟩)
set_option maxHeartbeats 4000000 in
set_option maxRecDepth 100000 in
/-- Court.seatOf -/
theorem ctX2_seatOf (l : Launch) (D : va_G) (y : Nat → ClassId) (ad : Nat → Nat → Nat) (x : cS) (R : List (Nat × Nat)) (qs : Nat → Nat × Nat) (nC nT : Nat) (hR : cHas R nC nT) (k : Nat) (q : Int32) (n : Nat) (hk5 : k < 5) (hs : x.1 18 k 3 = nI n) (hn : n ≤ 25) : cMi l yX2_seatOf wsX2_seatOf ({ frames := 0, cells := 0, slots := 0, locals := 0 }) D y ad x R qs [.ref (ad 18 k), .int q] (fun r x' => r = fInt (fun i => decide (x.1 19 k i = q)) n ∧ x' = x) := by
  refine cMi_of (cc := cX2_seatOf) (maxL := 3) (ret := (some .int)) (by decide) rfl (Nat.le_of_ble_eq_true rfl) ?_
  intro p e s m below meth c A ls hat hAe hl
  obtain ⟨hx, hb, hr, hml, hts, hown, hlocks, hK, hP, hD, hA, hE⟩ := hat
  have hown : s.vm.findClass RX2 = some m.cls := hown
  have hin2 : ∀ w ∈ wsX20, w ∈ wsX2_seatOf := fun _ h9 => List.mem_cons_of_mem _ (List.mem_append_right _ h9)
  have hl : lv_has ls 3 [(0, .ref (ad 18 k)), (1, .int q)] := hl
  have hS : va_S A s.heap s.heap [] := va_S.rf
  refine lv_iconst (v := 0) hx hb dX2_seatOf_0 (by decide) ?_
  refine lv_istore_n (lv' := [(2, .int 0), (0, .ref (ad 18 k)), (1, .int q)]) hx hb dX2_seatOf_1 rfl hl (by decide) rfl (fun ls hl => ?_)
  have lp_2 : ∀ (n_2 : Nat) (j : Nat) (x2 : Int32), (j ≤ n) → (n + 1 ≤ j + n_2) → (x2 = nI j) → (∀ i, i < j → (fun i => decide (x.1 19 k i = q)) i = false) → ∀ (H : Heap) (locs : List Loc), va_P D vwCl (cW ad y x R) H → va_D A (cW ad y x R) → va_S A s.heap H locs → ∀ (ls : Array Slot), lv_has ls 3 [(0, .ref (ad 18 k)), (1, .int q), (2, .int x2)] → W p l e (headSpec wsX2_seatOf ({ frames := 0, cells := 0, slots := 0, locals := 0 })).room s m ([.ref (ad 18 k), .int q] : List Value).toArray below meth c H locs 0 0 (MQ below (va_Qi (fun r x' => r = fInt (fun i => decide (x.1 19 k i = q)) n ∧ x' = x) (cEnd D y ad R s.heap.size) A) ([.ref (ad 18 k), .int q] : List Value).toArray s 0 0 A) (F0 m 2 ls []) := by
    intro n_2
    induction n_2 with
    | zero =>
      intro j x2 hj hf ex2 hno
      exact absurd hf (by omega)
    | succ n_2 ih_2 =>
      intro j x2 hj hf ex2 hno H locs hP hD hS ls hl
      refine lv_iload_n hx hb dX2_seatOf_2 rfl (lv_at hl 2 rfl) ?_
      refine lv_aload_n hx hb dX2_seatOf_3 rfl (lv_at hl 0 rfl) ?_
      refine cg_X2_sitting (i := k) hx hb hts hin2 hown hK hP ((hR 18 (k)).mpr hk5) (by decide +kernel) dX2_seatOf_4 ?_
      refine lv_icmp_ge (tgt := 28) hx hb dX2_seatOf_7 (by decide) (fun c_7 => ?_) (fun c_7 => ?_)
      · have hjn : j = n := by rw [hs, ex2] at c_7; have := (nI_leI (by omega) (by omega)).mp c_7; omega
        refine lv_iconst (v := (-1)) hx hb dX2_seatOf_28 (by decide) ?_
        exact c_reti hx hb hr hlocks hAe hK hP hD hS rfl dX2_seatOf_29 (⟨(fInt_miss (by rw [hjn] at hno; exact hno)).symm, rfl⟩)
      · have hjn : j < n := by rw [hs, ex2] at c_7; exact Nat.not_le.mp (fun q9 => c_7 (nI_le q9 (by omega)))
        have hc2 : x2.toNatClampNeg = j := by rw [ex2]; exact nI_clamp (by omega)
        refine lv_aload_n hx hb dX2_seatOf_10 rfl (lv_at hl 0 rfl) ?_
        refine cg_X2_seats (i := k) hx hb hts hin2 hown hK hP ((hR 18 (k)).mpr hk5) (by decide +kernel) dX2_seatOf_11 ?_
        refine lv_iload_n hx hb dX2_seatOf_14 rfl (lv_at hl 2 rfl) ?_
        refine cl_int 19 (k) 25 hx hb hK hP ((hR 19 (k)).mpr hk5) (fun _ _ _ => rfl) (by rw [ex2]; exact vp_in_nI (by omega) (by omega)) dX2_seatOf_15 ?_
        refine lv_iload_n hx hb dX2_seatOf_16 rfl (lv_at hl 1 rfl) ?_
        refine lv_icmp_ne (tgt := 22) hx hb dX2_seatOf_17 (by decide) (fun c_17 => ?_) (fun c_17 => ?_)
        · have h17 : (fun i => decide (x.1 19 k i = q)) j = false := by rw [hc2] at c_17; simp [c_17]
          obtain ⟨x2_1, ex2_1⟩ : ∃ z : Int32, z = x2 + 1 := ⟨_, rfl⟩
          refine lv_iinc (v := x2_1) (lv' := [(2, .int x2_1), (0, .ref (ad 18 k)), (1, .int q)]) hx hb dX2_seatOf_22 hl (k := 2) rfl (by rw [ex2_1]; rfl) (by decide) rfl (fun ls hl => ?_)
          refine lv_goto (tgt := 2) hx hb dX2_seatOf_25 (by decide) ?_
          exact ih_2 (j + 1) _ (by omega) (by omega) (by rw [ex2_1, ex2]; exact nI_1 _) (lt_sb hno h17) _ _ hP hD hS _ (lv_sub hl [1, 2, 0] rfl)
        · have h17 : (fun i => decide (x.1 19 k i = q)) j = true := by rw [hc2] at c_17; simp [c_17]
          refine lv_iload_n hx hb dX2_seatOf_20 rfl (lv_at hl 2 rfl) ?_
          exact c_reti hx hb hr hlocks hAe hK hP hD hS rfl dX2_seatOf_21 (⟨by rw [ex2]; exact (fInt_hit hno hjn h17).symm, rfl⟩)
  exact lp_2 (n + 1) 0 _ (Nat.zero_le _) (by omega) rfl (fun i hi => absurd hi (Nat.not_lt_zero _)) _ _ hP hD hS _ (lv_sub hl [1, 2, 0] rfl)
def cVan (x : cS) (k : Nat) : cS := cI (cI x 20 k 3 0) 20 k 4 0
set_option maxHeartbeats 4000000 in
set_option maxRecDepth 100000 in
/-- Suit.vanish -/
theorem ctX7_vanish (l : Launch) (D : va_G) (y : Nat → ClassId) (ad : Nat → Nat → Nat) (x : cS) (R : List (Nat × Nat)) (qs : Nat → Nat × Nat) (nC nT : Nat) (hR : cHas R nC nT) (k : Nat) (hk5 : k < 5) : cMv l yX7_vanish wsX7_vanish ({ frames := 0, cells := 0, slots := 0, locals := 0 }) D y ad x R qs [.ref (ad 20 k)] (fun x' => x' = cVan x k) := by
  refine cMv_of (cc := cX7_vanish) (maxL := 1) (ret := none) (by decide) rfl (Nat.le_of_ble_eq_true rfl) ?_
  intro p e s m below meth c A ls hat hAe hl
  obtain ⟨hx, hb, hr, hml, hts, hown, hlocks, hK, hP, hD, hA, hE⟩ := hat
  have hown : s.vm.findClass RX7 = some m.cls := hown
  have hin7 : ∀ w ∈ wsX70, w ∈ wsX7_vanish := fun _ h9 => List.mem_cons_of_mem _ (List.mem_append_right _ h9)
  have hl : lv_has ls 1 [(0, .ref (ad 20 k))] := hl
  have hS : va_S A s.heap s.heap [] := va_S.rf
  refine lv_aload_n hx hb dX7_vanish_0 rfl (lv_at hl 0 rfl) ?_
  refine lv_iconst (v := 0) hx hb dX7_vanish_1 (by decide) ?_
  refine cp_X7_begun (i := k) hx hb hts hin7 hown hK hP hD hS ((hR 20 (k)).mpr hk5) (by decide) (by decide +kernel) dX7_vanish_2 (fun H locs hP hD hS => ?_)
  refine lv_aload_n hx hb dX7_vanish_5 rfl (lv_at hl 0 rfl) ?_
  refine lv_iconst (v := 0) hx hb dX7_vanish_6 (by decide) ?_
  refine cp_X7_open (i := k) hx hb hts hin7 hown hK hP hD hS ((hR 20 (k)).mpr hk5) (by decide) (by decide +kernel) dX7_vanish_7 (fun H locs hP hD hS => ?_)
  exact c_retv hx hb hr hlocks hAe hK hP hD hS dX7_vanish_10 (rfl)
def cShut (x : cS) (k : Nat) : cS := cVan (cI (cI x 18 k 2 0) 18 k 3 0) k
set_option maxHeartbeats 4000000 in
set_option maxRecDepth 100000 in
/-- Court.shut -/
theorem ctX2_shut (l : Launch) (D : va_G) (y : Nat → ClassId) (ad : Nat → Nat → Nat) (x : cS) (R : List (Nat × Nat)) (qs : Nat → Nat × Nat) (nC nT : Nat) (hR : cHas R nC nT) (k : Nat) (hk5 : k < 5) : cMv l yX2_shut wsX2_shut ({ frames := 1, cells := 0, slots := 0, locals := 20 }) D y ad x R qs [.ref (ad 18 k)] (fun x' => x' = cShut x k) := by
  refine cMv_of (cc := cX2_shut) (maxL := 1) (ret := none) (by decide) rfl (Nat.le_of_ble_eq_true rfl) ?_
  intro p e s m below meth c A ls hat hAe hl
  obtain ⟨hx, hb, hr, hml, hts, hown, hlocks, hK, hP, hD, hA, hE⟩ := hat
  have hown : s.vm.findClass RX2 = some m.cls := hown
  have hin2 : ∀ w ∈ wsX20, w ∈ wsX2_shut := fun _ h9 => List.mem_cons_of_mem _ (List.mem_append_left _ (List.mem_append_right _ h9))
  have hin7 : ∀ w ∈ wsX70, w ∈ wsX2_shut := fun _ h9 => List.mem_cons_of_mem _ (List.mem_append_right _ h9)
  have hl : lv_has ls 1 [(0, .ref (ad 18 k))] := hl
  have hS : va_S A s.heap s.heap [] := va_S.rf
  refine lv_aload_n hx hb dX2_shut_0 rfl (lv_at hl 0 rfl) ?_
  refine lv_iconst (v := 0) hx hb dX2_shut_1 (by decide) ?_
  refine cp_X2_size (i := k) hx hb hts hin2 hown hK hP hD hS ((hR 18 (k)).mpr hk5) (by decide +kernel) dX2_shut_2 (fun H locs hP hD hS => ?_)
  refine lv_aload_n hx hb dX2_shut_5 rfl (lv_at hl 0 rfl) ?_
  refine lv_iconst (v := 0) hx hb dX2_shut_6 (by decide) ?_
  refine cp_X2_sitting (i := k) hx hb hts hin2 hown hK hP hD hS ((hR 18 (k)).mpr hk5) (by decide +kernel) dX2_shut_7 (fun H locs hP hD hS => ?_)
  refine lv_aload_n hx hb dX2_shut_10 rfl (lv_at hl 0 rfl) ?_
  refine cg_X2_suit (i := k) hx hb hts hin2 hown hK hP ((hR 18 (k)).mpr hk5) (by decide +kernel) dX2_shut_11 ?_
  refine c_callv (ci := 7) (q := (RX7, TX7, 16)) (κ := 20) (i := k) (As := []) (rest := []) ⟨hx, hb, hml, hown, hts⟩ (ctX7_vanish l D y ad _ R qs nC nT hR k hk5) (cwV 0 hts gX2_shut_X7_vanish rfl rfl rfl (by decide +kernel) ⟨Nat.le_of_ble_eq_true rfl, Nat.le_of_ble_eq_true rfl⟩) ((hR 20 (k)).mpr hk5) (fun _ _ _ => ⟨_, rfl⟩) rfl hE hK hP hD hS hA rfl hl.1 rfl (Nat.le_of_ble_eq_true rfl) dX2_shut_14 ⟨Nat.zero_le _, Nat.zero_le _⟩ (fun x1 H locs hq hP hD hS => ?_)
  exact c_retv hx hb hr hlocks hAe hK hP hD hS dX2_shut_17 (hq)
def cBegin (x : cS) (k : Nat) (a b c d : Int32) : cS := cI (cI (cI (cI (cI (cI x 20 k 6 a) 20 k 7 b) 20 k 8 c) 20 k 9 d) 20 k 3 1) 20 k 4 1
set_option maxHeartbeats 4000000 in
set_option maxRecDepth 100000 in
/-- Suit.begin -/
theorem ctX7_begin (l : Launch) (D : va_G) (y : Nat → ClassId) (ad : Nat → Nat → Nat) (x : cS) (R : List (Nat × Nat)) (qs : Nat → Nat × Nat) (nC nT : Nat) (hR : cHas R nC nT) (k : Nat) (a1 b1 c1 d1 : Int32) (hk5 : k < 5) : cMv l yX7_begin wsX7_begin ({ frames := 0, cells := 0, slots := 0, locals := 0 }) D y ad x R qs [.ref (ad 20 k), .int a1, .int b1, .int c1, .int d1] (fun x' => x' = cBegin x k a1 b1 c1 d1) := by
  refine cMv_of (cc := cX7_begin) (maxL := 5) (ret := none) (by decide) rfl (Nat.le_of_ble_eq_true rfl) ?_
  intro p e s m below meth c A ls hat hAe hl
  obtain ⟨hx, hb, hr, hml, hts, hown, hlocks, hK, hP, hD, hA, hE⟩ := hat
  have hown : s.vm.findClass RX7 = some m.cls := hown
  have hin7 : ∀ w ∈ wsX70, w ∈ wsX7_begin := fun _ h9 => List.mem_cons_of_mem _ (List.mem_append_right _ h9)
  have hl : lv_has ls 5 [(0, .ref (ad 20 k)), (1, .int a1), (2, .int b1), (3, .int c1), (4, .int d1)] := hl
  have hS : va_S A s.heap s.heap [] := va_S.rf
  refine lv_aload_n hx hb dX7_begin_0 rfl (lv_at hl 0 rfl) ?_
  refine lv_iload_n hx hb dX7_begin_1 rfl (lv_at hl 1 rfl) ?_
  refine cp_X7_kind (i := k) hx hb hts hin7 hown hK hP hD hS ((hR 20 (k)).mpr hk5) (by decide +kernel) dX7_begin_2 (fun H locs hP hD hS => ?_)
  refine lv_aload_n hx hb dX7_begin_5 rfl (lv_at hl 0 rfl) ?_
  refine lv_iload_n hx hb dX7_begin_6 rfl (lv_at hl 2 rfl) ?_
  refine cp_X7_accuser (i := k) hx hb hts hin7 hown hK hP hD hS ((hR 20 (k)).mpr hk5) (by decide +kernel) dX7_begin_7 (fun H locs hP hD hS => ?_)
  refine lv_aload_n hx hb dX7_begin_10 rfl (lv_at hl 0 rfl) ?_
  refine lv_iload_n hx hb dX7_begin_11 rfl (lv_at hl 3 rfl) ?_
  refine cp_X7_accused (i := k) hx hb hts hin7 hown hK hP hD hS ((hR 20 (k)).mpr hk5) (by decide +kernel) dX7_begin_12 (fun H locs hP hD hS => ?_)
  refine lv_aload_n hx hb dX7_begin_15 rfl (lv_at hl 0 rfl) ?_
  refine lv_iload hx hb dX7_begin_16 (lv_at hl 4 rfl) ?_
  refine cp_X7_sum (i := k) hx hb hts hin7 hown hK hP hD hS ((hR 20 (k)).mpr hk5) (by decide +kernel) dX7_begin_18 (fun H locs hP hD hS => ?_)
  refine lv_aload_n hx hb dX7_begin_21 rfl (lv_at hl 0 rfl) ?_
  refine lv_iconst (v := 1) hx hb dX7_begin_22 (by decide) ?_
  refine cp_X7_begun (i := k) hx hb hts hin7 hown hK hP hD hS ((hR 20 (k)).mpr hk5) (by decide) (by decide +kernel) dX7_begin_23 (fun H locs hP hD hS => ?_)
  refine lv_aload_n hx hb dX7_begin_26 rfl (lv_at hl 0 rfl) ?_
  refine lv_iconst (v := 1) hx hb dX7_begin_27 (by decide) ?_
  refine cp_X7_open (i := k) hx hb hts hin7 hown hK hP hD hS ((hR 20 (k)).mpr hk5) (by decide) (by decide +kernel) dX7_begin_28 (fun H locs hP hD hS => ?_)
  exact c_retv hx hb hr hlocks hAe hK hP hD hS dX7_begin_31 (rfl)
def cForg (x : cS) (k : Nat) : cS := cI (cI (cI x 20 k 13 (-1)) 20 k 14 (-1)) 20 k 15 (-1)
set_option maxHeartbeats 4000000 in
set_option maxRecDepth 100000 in
/-- Suit.forgetVerdict -/
theorem ctX7_forgetVerdict (l : Launch) (D : va_G) (y : Nat → ClassId) (ad : Nat → Nat → Nat) (x : cS) (R : List (Nat × Nat)) (qs : Nat → Nat × Nat) (nC nT : Nat) (hR : cHas R nC nT) (k : Nat) (hk5 : k < 5) : cMv l yX7_forgetVerdict wsX7_forgetVerdict ({ frames := 0, cells := 0, slots := 0, locals := 0 }) D y ad x R qs [.ref (ad 20 k)] (fun x' => x' = cForg x k) := by
  refine cMv_of (cc := cX7_forgetVerdict) (maxL := 1) (ret := none) (by decide) rfl (Nat.le_of_ble_eq_true rfl) ?_
  intro p e s m below meth c A ls hat hAe hl
  obtain ⟨hx, hb, hr, hml, hts, hown, hlocks, hK, hP, hD, hA, hE⟩ := hat
  have hown : s.vm.findClass RX7 = some m.cls := hown
  have hin7 : ∀ w ∈ wsX70, w ∈ wsX7_forgetVerdict := fun _ h9 => List.mem_cons_of_mem _ (List.mem_append_right _ h9)
  have hl : lv_has ls 1 [(0, .ref (ad 20 k))] := hl
  have hS : va_S A s.heap s.heap [] := va_S.rf
  refine lv_aload_n hx hb dX7_forgetVerdict_0 rfl (lv_at hl 0 rfl) ?_
  refine lv_iconst (v := (-1)) hx hb dX7_forgetVerdict_1 (by decide) ?_
  refine cp_X7_verdict (i := k) hx hb hts hin7 hown hK hP hD hS ((hR 20 (k)).mpr hk5) (by decide +kernel) dX7_forgetVerdict_2 (fun H locs hP hD hS => ?_)
  refine lv_aload_n hx hb dX7_forgetVerdict_5 rfl (lv_at hl 0 rfl) ?_
  refine lv_iconst (v := (-1)) hx hb dX7_forgetVerdict_6 (by decide) ?_
  refine cp_X7_debtor (i := k) hx hb hts hin7 hown hK hP hD hS ((hR 20 (k)).mpr hk5) (by decide +kernel) dX7_forgetVerdict_7 (fun H locs hP hD hS => ?_)
  refine lv_aload_n hx hb dX7_forgetVerdict_10 rfl (lv_at hl 0 rfl) ?_
  refine lv_iconst (v := (-1)) hx hb dX7_forgetVerdict_11 (by decide) ?_
  refine cp_X7_debt (i := k) hx hb hts hin7 hown hK hP hD hS ((hR 20 (k)).mpr hk5) (by decide +kernel) dX7_forgetVerdict_12 (fun H locs hP hD hS => ?_)
  exact c_retv hx hb hr hlocks hAe hK hP hD hS dX7_forgetVerdict_15 (rfl)
def cCharge (x : cS) (k : Nat) (p q : Int32) : cS := if 0 < q then cI (cI x 20 k 14 p) 20 k 15 q else x
set_option maxHeartbeats 4000000 in
set_option maxRecDepth 100000 in
/-- Suit.charge -/
theorem ctX7_charge (l : Launch) (D : va_G) (y : Nat → ClassId) (ad : Nat → Nat → Nat) (x : cS) (R : List (Nat × Nat)) (qs : Nat → Nat × Nat) (nC nT : Nat) (hR : cHas R nC nT) (k : Nat) (p1 q : Int32) (hk5 : k < 5) : cMv l yX7_charge wsX7_charge ({ frames := 0, cells := 0, slots := 0, locals := 0 }) D y ad x R qs [.ref (ad 20 k), .int p1, .int q] (fun x' => x' = cCharge x k p1 q) := by
  refine cMv_of (cc := cX7_charge) (maxL := 3) (ret := none) (by decide) rfl (Nat.le_of_ble_eq_true rfl) ?_
  intro p e s m below meth c A ls hat hAe hl
  obtain ⟨hx, hb, hr, hml, hts, hown, hlocks, hK, hP, hD, hA, hE⟩ := hat
  have hown : s.vm.findClass RX7 = some m.cls := hown
  have hin7 : ∀ w ∈ wsX70, w ∈ wsX7_charge := fun _ h9 => List.mem_cons_of_mem _ (List.mem_append_right _ h9)
  have hl : lv_has ls 3 [(0, .ref (ad 20 k)), (1, .int p1), (2, .int q)] := hl
  have hS : va_S A s.heap s.heap [] := va_S.rf
  refine lv_iload_n hx hb dX7_charge_0 rfl (lv_at hl 2 rfl) ?_
  refine lv_if_le (tgt := 14) hx hb dX7_charge_1 (by decide) (fun c_1 => ?_) (fun c_1 => ?_)
  · exact c_retv hx hb hr hlocks hAe hK hP hD hS dX7_charge_14 (by simp [cCharge, c_1, Int32.not_lt.mpr c_1])
  · refine lv_aload_n hx hb dX7_charge_4 rfl (lv_at hl 0 rfl) ?_
    refine lv_iload_n hx hb dX7_charge_5 rfl (lv_at hl 1 rfl) ?_
    refine cp_X7_debtor (i := k) hx hb hts hin7 hown hK hP hD hS ((hR 20 (k)).mpr hk5) (by decide +kernel) dX7_charge_6 (fun H locs hP hD hS => ?_)
    refine lv_aload_n hx hb dX7_charge_9 rfl (lv_at hl 0 rfl) ?_
    refine lv_iload_n hx hb dX7_charge_10 rfl (lv_at hl 2 rfl) ?_
    refine cp_X7_debt (i := k) hx hb hts hin7 hown hK hP hD hS ((hR 20 (k)).mpr hk5) (by decide +kernel) dX7_charge_11 (fun H locs hP hD hS => ?_)
    exact c_retv hx hb hr hlocks hAe hK hP hD hS dX7_charge_14 (by simp [cCharge, c_1, Int32.not_le.mp c_1])
