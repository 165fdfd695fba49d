/-! the landed program: the reader's tokens -/
theorem cI_cI (x : cS) (κ i s : Nat) (a b : Int32) : cI (cI x κ i s a) κ i s b = cI x κ i s b := by
  refine Prod.ext ?_ rfl
  funext p q r
  simp only [cI_r]
  split <;> rfl
def dgs (x : cS) (st : Nat) : Nat → Int32
  | 0 => 0
  | j + 1 => dgs x st j * 10 + x.1 2 0 (st + j) - 48
def cDg (x : cS) (st nx : Nat) : Int32 × cS := if 5 < nx - st then (0, cI x 3 0 9 0) else (1, cI x 3 0 9 (dgs x st (nx - st)))
def cFail (x : cS) (k : Int32) : cS := cI (cI x 3 0 4 k) 3 0 5 (x.1 3 0 7)
set_option maxHeartbeats 4000000 in
set_option maxRecDepth 100000 in
/-- LawReader.fail -/
theorem ctX5_fail (l : Launch) (D : va_G) (y : Nat → ClassId) (ad : Nat → Nat → Nat) (x : cS) (R : List (Nat × Nat)) (qs : Nat → Nat × Nat) (nC nT : Nat) (hR : cHas R nC nT) (k : Int32) : cMi l yX5_fail wsX5_fail ({ frames := 0, cells := 0, slots := 0, locals := 0 }) D y ad x R qs [.ref (ad 3 0), .int k] (fun r x' => r = 0 ∧ x' = cFail x k) := by
  refine cMi_of (cc := cX5_fail) (maxL := 2) (ret := (some .boolean)) (by decide) rfl (Nat.le_of_ble_eq_true rfl) ?_
  intro p e s m below meth c A ls hat hAe hl
  obtain ⟨hx, hb, hr, hml, hts, hown, hlocks, hK, hP, hD, hA, hE⟩ := hat
  have hown : s.vm.findClass RX5 = some m.cls := hown
  have hin5 : ∀ w ∈ wsX50, w ∈ wsX5_fail := fun _ h9 => List.mem_cons_of_mem _ (List.mem_append_right _ h9)
  have hl : lv_has ls 2 [(0, .ref (ad 3 0)), (1, .int k)] := hl
  have hS : va_S A s.heap s.heap [] := va_S.rf
  refine lv_aload_n hx hb dX5_fail_0 rfl (lv_at hl 0 rfl) ?_
  refine lv_iload_n hx hb dX5_fail_1 rfl (lv_at hl 1 rfl) ?_
  refine cp_X5_faultKind (i := 0) hx hb hts hin5 hown hK hP hD hS ((hR 3 (0)).mpr Nat.zero_lt_one) (by decide +kernel) dX5_fail_2 (fun H locs hP hD hS => ?_)
  refine lv_aload_n hx hb dX5_fail_5 rfl (lv_at hl 0 rfl) ?_
  refine lv_aload_n hx hb dX5_fail_6 rfl (lv_at hl 0 rfl) ?_
  refine cg_X5_start (i := 0) hx hb hts hin5 hown hK hP ((hR 3 (0)).mpr Nat.zero_lt_one) (by decide +kernel) dX5_fail_7 ?_
  refine cp_X5_faultPlace (i := 0) hx hb hts hin5 hown hK hP hD hS ((hR 3 (0)).mpr Nat.zero_lt_one) (by decide +kernel) dX5_fail_10 (fun H locs hP hD hS => ?_)
  refine lv_iconst (v := 0) hx hb dX5_fail_13 (by decide) ?_
  exact c_reti hx hb hr hlocks hAe hK hP hD hS (by first | rfl | decide) dX5_fail_14 (⟨rfl, by simp [cFail, cI_r]⟩)
set_option maxHeartbeats 4000000 in
set_option maxRecDepth 100000 in
/-- LawReader.readDigits -/
theorem ctX5_readDigits (l : Launch) (D : va_G) (y : Nat → ClassId) (ad : Nat → Nat → Nat) (x : cS) (R : List (Nat × Nat)) (qs : Nat → Nat × Nat) (nC nT : Nat) (hR : cHas R nC nT) (st nx : Nat) (hst : x.1 3 0 7 = nI st) (hnx : x.1 3 0 8 = nI nx) (hle : st ≤ nx) (hnx1 : nx ≤ 1000) : cMi l yX5_readDigits wsX5_readDigits ({ frames := 0, cells := 0, slots := 0, locals := 0 }) D y ad x R qs [.ref (ad 3 0)] (fun r x' => (r, x') = cDg x st nx) := by
  refine cMi_of (cc := cX5_readDigits) (maxL := 2) (ret := (some .boolean)) (by decide) rfl (Nat.le_of_ble_eq_true rfl) ?_
  intro p e s m below meth c A ls hat hAe hl
  obtain ⟨hx, hb, hr, hml, hts, hown, hlocks, hK, hP, hD, hA, hE⟩ := hat
  have hown : s.vm.findClass RX5 = some m.cls := hown
  have hin5 : ∀ w ∈ wsX50, w ∈ wsX5_readDigits := fun _ h9 => List.mem_cons_of_mem _ (List.mem_append_left _ (List.mem_append_right _ h9))
  have hin8 : ∀ w ∈ wsX80, w ∈ wsX5_readDigits := fun _ h9 => List.mem_cons_of_mem _ (List.mem_append_right _ h9)
  have hl : lv_has ls 2 [(0, .ref (ad 3 0))] := hl
  have hS : va_S A s.heap s.heap [] := va_S.rf
  have hst0 : (cI x 3 0 9 0).1 3 0 7 = nI st := by simp [cI_r, hst]
  have hnx0 : (cI x 3 0 9 0).1 3 0 8 = nI nx := by simp [cI_r, hnx]
  refine lv_aload_n hx hb dX5_readDigits_0 rfl (lv_at hl 0 rfl) ?_
  refine lv_iconst (v := 0) hx hb dX5_readDigits_1 (by decide) ?_
  refine cp_X5_number (i := 0) hx hb hts hin5 hown hK hP hD hS ((hR 3 (0)).mpr Nat.zero_lt_one) (by decide +kernel) dX5_readDigits_2 (fun H locs hP hD hS => ?_)
  refine lv_aload_n hx hb dX5_readDigits_5 rfl (lv_at hl 0 rfl) ?_
  refine cg_X5_next (i := 0) hx hb hts hin5 hown hK hP ((hR 3 (0)).mpr Nat.zero_lt_one) (by decide +kernel) dX5_readDigits_6 ?_
  refine lv_aload_n hx hb dX5_readDigits_9 rfl (lv_at hl 0 rfl) ?_
  refine cg_X5_start (i := 0) hx hb hts hin5 hown hK hP ((hR 3 (0)).mpr Nat.zero_lt_one) (by decide +kernel) dX5_readDigits_10 ?_
  refine lv_isub hx hb dX5_readDigits_13 ?_
  refine lv_iconst (v := 5) hx hb dX5_readDigits_14 (by decide) ?_
  refine lv_icmp_gt (tgt := 35) hx hb dX5_readDigits_15 (by decide) (fun c_15 => ?_) (fun c_15 => ?_)
  · have h15 : 5 < nx - st := by rw [hst0, hnx0, pk_sub hle] at c_15; exact (nI_ltI (a := 5) (by omega) (by omega)).mp c_15
    refine lv_iconst (v := 0) hx hb dX5_readDigits_35 (by decide) ?_
    exact c_reti hx hb hr hlocks hAe hK hP hD hS (by first | rfl | decide) dX5_readDigits_36 (by rw [cDg, if_pos h15])
  · have h15 : ¬ 5 < nx - st := fun q9 => c_15 (by rw [hst0, hnx0, pk_sub hle]; exact (nI_ltI (a := 5) (by omega) (by omega)).mpr q9)
    refine lv_aload_n hx hb dX5_readDigits_18 rfl (lv_at hl 0 rfl) ?_
    refine cg_X5_start (i := 0) hx hb hts hin5 hown hK hP ((hR 3 (0)).mpr Nat.zero_lt_one) (by decide +kernel) dX5_readDigits_19 ?_
    refine lv_if_lt (tgt := 35) hx hb dX5_readDigits_22 (by decide) (fun c_22 => ?_) (fun c_22 => ?_)
    · exact absurd c_22 (by rw [hst0]; exact nI_pos (by omega))
    · refine lv_aload_n hx hb dX5_readDigits_25 rfl (lv_at hl 0 rfl) ?_
      refine cg_X5_next (i := 0) hx hb hts hin5 hown hK hP ((hR 3 (0)).mpr Nat.zero_lt_one) (by decide +kernel) dX5_readDigits_26 ?_
      refine lv_sipush (v := 1000) hx hb dX5_readDigits_29 (by decide) ?_
      refine lv_icmp_le (tgt := 37) hx hb dX5_readDigits_32 (by decide) (fun c_32 => ?_) (fun c_32 => ?_)
      · refine lv_aload_n hx hb dX5_readDigits_37 rfl (lv_at hl 0 rfl) ?_
        refine cg_X5_start (i := 0) hx hb hts hin5 hown hK hP ((hR 3 (0)).mpr Nat.zero_lt_one) (by decide +kernel) dX5_readDigits_38 ?_
        refine lv_topi (fun x1_1 ex1_1 => ?_)
        refine lv_istore_n (lv' := [(1, .int x1_1), (0, .ref (ad 3 0))]) hx hb dX5_readDigits_41 rfl hl (by decide) rfl (fun ls hl => ?_)
        have lp_42 : ∀ (n_42 : Nat) (j : Nat) (w : cS) (x1 : Int32), (st + j ≤ nx) → (1002 ≤ j + n_42) → (x1 = nI (st + j)) → (w = cI x 3 0 9 (dgs x st j)) → ∀ (H : Heap) (locs : List Loc), va_P D vwCl (cW ad y w R) H → va_D A (cW ad y w R) → va_S A s.heap H locs → ∀ (ls : Array Slot), lv_has ls 2 [(0, .ref (ad 3 0)), (1, .int x1)] → W p l e (headSpec wsX5_readDigits ({ frames := 0, cells := 0, slots := 0, locals := 0 })).room s m ([.ref (ad 3 0)] : List Value).toArray below meth c H locs 0 0 (MQ below (va_Qi (fun r x' => (r, x') = cDg x st nx) (cEnd D y ad R s.heap.size) A) ([.ref (ad 3 0)] : List Value).toArray s 0 0 A) (F0 m 42 ls []) := by
          intro n_42
          induction n_42 with
          | zero =>
            intro j w x1 hj hf ex1 hw
            exact absurd hf (by omega)
          | succ n_42 ih_42 =>
            intro j w x1 hj hf ex1 hw H locs hP hD hS ls hl
            have hnw : w.1 3 0 8 = nI nx := by rw [hw]; simp [cI_r, hnx]
            refine lv_iload_n hx hb dX5_readDigits_42 rfl (lv_at hl 1 rfl) ?_
            refine lv_aload_n hx hb dX5_readDigits_43 rfl (lv_at hl 0 rfl) ?_
            refine cg_X5_next (i := 0) hx hb hts hin5 hown hK hP ((hR 3 (0)).mpr Nat.zero_lt_one) (by decide +kernel) dX5_readDigits_44 ?_
            refine lv_icmp_ge (tgt := 80) hx hb dX5_readDigits_47 (by decide) (fun c_47 => ?_) (fun c_47 => ?_)
            · have hjn : st + j = nx := by rw [hnw, ex1] at c_47; have := (nI_leI (by omega) (by omega)).mp c_47; omega
              refine lv_iconst (v := 1) hx hb dX5_readDigits_80 (by decide) ?_
              exact c_reti hx hb hr hlocks hAe hK hP hD hS (by first | rfl | decide) dX5_readDigits_81 (by rw [cDg, if_neg h15, hw, show j = nx - st by omega])
            · have hjn : st + j < nx := by rw [hnw, ex1] at c_47; exact Nat.not_le.mp (fun q9 => c_47 (nI_le q9 (by omega)))
              have hc1 : x1.toNatClampNeg = st + j := by rw [ex1]; exact nI_clamp (by omega)
              refine lv_aload_n hx hb dX5_readDigits_50 rfl (lv_at hl 0 rfl) ?_
              refine lv_aload_n hx hb dX5_readDigits_51 rfl (lv_at hl 0 rfl) ?_
              refine cg_X5_number (i := 0) hx hb hts hin5 hown hK hP ((hR 3 (0)).mpr Nat.zero_lt_one) (by decide +kernel) dX5_readDigits_52 ?_
              refine lv_bipush (v := 10) hx hb dX5_readDigits_55 (by decide) ?_
              refine lv_imul hx hb dX5_readDigits_57 ?_
              refine lv_aload_n hx hb dX5_readDigits_58 rfl (lv_at hl 0 rfl) ?_
              refine cg_X5_tape (i := 0) hx hb hts hin5 hown hK hP ((hR 3 (0)).mpr Nat.zero_lt_one) (by decide +kernel) dX5_readDigits_59 ?_
              refine cg_X8_bytes (i := 0) hx hb hts hin8 hown hK hP ((hR 1 (0)).mpr Nat.zero_lt_one) (by decide +kernel) dX5_readDigits_62 ?_
              refine lv_iload_n hx hb dX5_readDigits_65 rfl (lv_at hl 1 rfl) ?_
              refine cl_byte 2 (0) 1000 hx hb hK hP ((hR 2 (0)).mpr Nat.zero_lt_one) (fun _ _ _ => rfl) (by rw [ex1]; exact vp_in_nI (by omega) (by omega)) dX5_readDigits_66 ?_
              refine lv_iadd hx hb dX5_readDigits_67 ?_
              refine lv_bipush (v := 48) hx hb dX5_readDigits_68 (by decide) ?_
              refine lv_isub hx hb dX5_readDigits_70 ?_
              refine cp_X5_number (i := 0) hx hb hts hin5 hown hK hP hD hS ((hR 3 (0)).mpr Nat.zero_lt_one) (by decide +kernel) dX5_readDigits_71 (fun H locs hP hD hS => ?_)
              obtain ⟨x1_2, ex1_2⟩ : ∃ z : Int32, z = x1 + 1 := ⟨_, rfl⟩
              refine lv_iinc (v := x1_2) (lv' := [(1, .int x1_2), (0, .ref (ad 3 0))]) hx hb dX5_readDigits_74 hl (k := 1) rfl (by rw [ex1_2]; rfl) (by decide) rfl (fun ls hl => ?_)
              refine lv_goto (tgt := 42) hx hb dX5_readDigits_77 (by decide) ?_
              exact ih_42 (j + 1) _ _ (by omega) (by omega) (by rw [ex1_2, ex1]; exact nI_1 _) (by rw [hw, cI_cI, dgs, hc1]; simp [cI_r]) _ _ hP hD hS _ (lv_sub hl [1, 0] rfl)
        exact lp_42 1002 0 _ _ (by omega) (by omega) (by rw [ex1_1]; exact hst0) rfl _ _ hP hD hS _ (lv_sub hl [1, 0] rfl)
      · exact absurd (by rw [hnx0]; exact nI_le (b := 1000) hnx1 (by omega)) c_32
def cA1 (x : cS) (st : Nat) : cS := cI (cI x 3 0 7 (nI st)) 3 0 8 (nI (st + 1))
def cA2 (x : cS) (st e : Nat) : cS := cI (cA1 x st) 3 0 8 (nI e)
def cAdvS (x : cS) (u st : Nat) : cS := if u ≤ st then cI (cA2 x st st) 3 0 6 0 else if cWi x u 97 122 st then cI (cA2 x st (eoR x u 97 122 st)) 3 0 6 1 else if cWi x u 48 57 st then cI (cDg (cA2 x st (eoR x u 48 57 st)) st (eoR x u 48 57 st)).2 3 0 6 (if (cDg (cA2 x st (eoR x u 48 57 st)) st (eoR x u 48 57 st)).1 = 0 then 4 else 2) else cI (cA1 x st) 3 0 6 (if cWi x u 59 59 st then 3 else 4)
def cAdv (x : cS) (u : Nat) : cS := cAdvS x u (eoB x u (sI (x.1 3 0 8)))
theorem fstn_ge (p : Nat → Bool) : ∀ n k, k ≤ fstn p n k
  | 0, k => Nat.le_refl _
  | n + 1, k => by
    rw [fstn]
    split
    · exact Nat.le_refl _
    · exact Nat.le_trans (Nat.le_succ k) (fstn_ge p n (k + 1))
theorem eoB_le (x : cS) {u p : Nat} (hu : u ≤ 1000) (hp : p ≤ 1000) : p ≤ eoB x u p ∧ eoB x u p ≤ 1000 := by
  refine ⟨fstn_ge _ _ _, ?_⟩
  have h := fstn_le (p := fun i => !cBl x u i) 1001 p (max p u) (Nat.le_max_left _ _) (by omega) (by simp [cBl, Nat.not_lt.mpr (Nat.le_max_right p u)])
  exact Nat.le_trans h (by omega)
theorem eoR_le (x : cS) (lo hi : Int32) {u p : Nat} (hu : u ≤ 1000) (hp : p < u) : p ≤ eoR x u lo hi p ∧ eoR x u lo hi p ≤ u :=
  ⟨fstn_ge _ _ _, fstn_le (p := fun i => !cWi x u lo hi i) 1001 p u (by omega) (by omega) (by simp [cWi])⟩
set_option maxHeartbeats 4000000 in
set_option maxRecDepth 100000 in
/-- LawReader.advance -/
theorem ctX5_advance (l : Launch) (D : va_G) (y : Nat → ClassId) (ad : Nat → Nat → Nat) (x : cS) (R : List (Nat × Nat)) (qs : Nat → Nat × Nat) (nC nT : Nat) (hR : cHas R nC nT) (u nx : Nat) (hu : x.1 1 0 1 = nI u) (hu1 : u ≤ 1000) (hnx : x.1 3 0 8 = nI nx) (hnx1 : nx ≤ 1000) : cMv l yX5_advance wsX5_advance ({ frames := 1, cells := 0, slots := 0, locals := 24 }) D y ad x R qs [.ref (ad 3 0)] (fun x' => x' = cAdv x u) := by
  refine cMv_of (cc := cX5_advance) (maxL := 1) (ret := none) (by decide) rfl (Nat.le_of_ble_eq_true rfl) ?_
  intro p e s m below meth c A ls hat hAe hl
  obtain ⟨hx, hb, hr, hml, hts, hown, hlocks, hK, hP, hD, hA, hE⟩ := hat
  have hown : s.vm.findClass RX5 = some m.cls := hown
  have hin5 : ∀ w ∈ wsX50, w ∈ wsX5_advance := fun _ h9 => List.mem_cons_of_mem _ (List.mem_append_left _ (List.mem_append_right _ h9))
  have hin8 : ∀ w ∈ wsX80, w ∈ wsX5_advance := fun _ h9 => List.mem_cons_of_mem _ (List.mem_append_right _ h9)
  have hl : lv_has ls 1 [(0, .ref (ad 3 0))] := hl
  have hS : va_S A s.heap s.heap [] := va_S.rf
  obtain ⟨hb1, hb2⟩ := eoB_le x hu1 hnx1
  obtain ⟨st, hst⟩ : ∃ z, z = eoB x u nx := ⟨_, rfl⟩
  rw [← hst] at hb1 hb2
  have hsn : sI (x.1 3 0 8) = nx := by rw [hnx]; exact nI_clamp (by omega)
  refine lv_aload_n hx hb dX5_advance_0 rfl (lv_at hl 0 rfl) ?_
  refine lv_aload_n hx hb dX5_advance_1 rfl (lv_at hl 0 rfl) ?_
  refine cg_X5_tape (i := 0) hx hb hts hin5 hown hK hP ((hR 3 (0)).mpr Nat.zero_lt_one) (by decide +kernel) dX5_advance_2 ?_
  refine lv_aload_n hx hb dX5_advance_5 rfl (lv_at hl 0 rfl) ?_
  refine cg_X5_next (i := 0) hx hb hts hin5 hown hK hP ((hR 3 (0)).mpr Nat.zero_lt_one) (by decide +kernel) dX5_advance_6 ?_
  refine c_callip (ci := 8) (q := (RX8, TX8, 2)) (κ := 1) (i := 0) (As := [.int (x.1 3 0 8)]) (rest := [.ref (ad 3 0)]) ⟨hx, hb, hml, hown, hts⟩ (ctX8_endOfBlanks l D y ad x R qs nC nT hR (x.1 3 0 8) u nx hu hu1 hnx hnx1) (cwV 1 hts gX5_advance_X8_endOfBlanks rfl rfl rfl (by decide +kernel) ⟨Nat.le_of_ble_eq_true rfl, Nat.le_of_ble_eq_true rfl⟩) ((hR 1 (0)).mpr Nat.zero_lt_one) (fun _ _ _ => ⟨_, rfl⟩) rfl hE hK hP hD hS hA rfl hl.1 rfl (Nat.le_of_ble_eq_true rfl) dX5_advance_9 ⟨Nat.zero_le _, Nat.zero_le _⟩ (fun H locs hP hD hS => ?_)
  rw [← hst]
  refine cp_X5_start (i := 0) hx hb hts hin5 hown hK hP hD hS ((hR 3 (0)).mpr Nat.zero_lt_one) (by decide +kernel) dX5_advance_12 (fun H locs hP hD hS => ?_)
  refine lv_aload_n hx hb dX5_advance_15 rfl (lv_at hl 0 rfl) ?_
  refine lv_aload_n hx hb dX5_advance_16 rfl (lv_at hl 0 rfl) ?_
  refine cg_X5_start (i := 0) hx hb hts hin5 hown hK hP ((hR 3 (0)).mpr Nat.zero_lt_one) (by decide +kernel) dX5_advance_17 ?_
  refine lv_iconst (v := 1) hx hb dX5_advance_20 (by decide) ?_
  refine lv_iadd hx hb dX5_advance_21 ?_
  refine cp_X5_next (i := 0) hx hb hts hin5 hown hK hP hD hS ((hR 3 (0)).mpr Nat.zero_lt_one) (by decide +kernel) dX5_advance_22 (fun H locs hP hD hS => ?_)
  rw [show (cI x 3 0 7 (nI st)).1 3 0 7 + 1 = nI (st + 1) by simp [cI_r]; exact nI_1 _] at hP hD
  have hP : va_P D vwCl (cW ad y (cA1 x st) R) H := hP
  have hD : va_D A (cW ad y (cA1 x st) R) := hD
  refine lv_aload_n hx hb dX5_advance_25 rfl (lv_at hl 0 rfl) ?_
  refine cg_X5_start (i := 0) hx hb hts hin5 hown hK hP ((hR 3 (0)).mpr Nat.zero_lt_one) (by decide +kernel) dX5_advance_26 ?_
  refine lv_aload_n hx hb dX5_advance_29 rfl (lv_at hl 0 rfl) ?_
  refine cg_X5_tape (i := 0) hx hb hts hin5 hown hK hP ((hR 3 (0)).mpr Nat.zero_lt_one) (by decide +kernel) dX5_advance_30 ?_
  refine cg_X8_used (i := 0) hx hb hts hin8 hown hK hP ((hR 1 (0)).mpr Nat.zero_lt_one) (by decide +kernel) dX5_advance_33 ?_
  refine lv_icmp_lt (tgt := 55) hx hb dX5_advance_36 (by decide) (fun c_36 => ?_) (fun c_36 => ?_)
  · have h36 : ¬ u ≤ st := by rw [show (cA1 x st).1 1 0 1 = nI u from hu, show (cA1 x st).1 3 0 7 = nI st by simp [cA1, cI_r]] at c_36; have := (nI_ltI (by omega) (by omega)).mp c_36; omega
    refine lv_aload_n hx hb dX5_advance_55 rfl (lv_at hl 0 rfl) ?_
    refine cg_X5_tape (i := 0) hx hb hts hin5 hown hK hP ((hR 3 (0)).mpr Nat.zero_lt_one) (by decide +kernel) dX5_advance_56 ?_
    refine lv_aload_n hx hb dX5_advance_59 rfl (lv_at hl 0 rfl) ?_
    refine cg_X5_start (i := 0) hx hb hts hin5 hown hK hP ((hR 3 (0)).mpr Nat.zero_lt_one) (by decide +kernel) dX5_advance_60 ?_
    refine lv_bipush (v := 97) hx hb dX5_advance_63 (by decide) ?_
    refine lv_bipush (v := 122) hx hb dX5_advance_65 (by decide) ?_
    refine c_callip (ci := 8) (q := (RX8, TX8, 2)) (κ := 1) (i := 0) (As := [.int ((cA1 x st).1 3 0 7), .int 97, .int 122]) (rest := []) ⟨hx, hb, hml, hown, hts⟩ (ctX8_isWithin l D y ad (cA1 x st) R qs nC nT hR ((cA1 x st).1 3 0 7) 97 122 u st hu hu1 (by simp [cA1, cI_r]) (by omega)) (cwV 3 hts gX5_advance_X8_isWithin rfl rfl rfl (by decide +kernel) ⟨Nat.le_of_ble_eq_true rfl, Nat.le_of_ble_eq_true rfl⟩) ((hR 1 (0)).mpr Nat.zero_lt_one) (fun _ _ _ => ⟨_, rfl⟩) rfl hE hK hP hD hS hA rfl hl.1 rfl (Nat.le_of_ble_eq_true rfl) dX5_advance_67 ⟨Nat.zero_le _, Nat.zero_le _⟩ (fun H locs hP hD hS => ?_)
    refine lv_if_eq (tgt := 100) hx hb dX5_advance_70 (by decide) (fun c_70 => ?_) (fun c_70 => ?_)
    · have b70 : cWi (cA1 x st) u 97 122 st = false := (zI_eq _).mp c_70
      refine lv_aload_n hx hb dX5_advance_100 rfl (lv_at hl 0 rfl) ?_
      refine cg_X5_tape (i := 0) hx hb hts hin5 hown hK hP ((hR 3 (0)).mpr Nat.zero_lt_one) (by decide +kernel) dX5_advance_101 ?_
      refine lv_aload_n hx hb dX5_advance_104 rfl (lv_at hl 0 rfl) ?_
      refine cg_X5_start (i := 0) hx hb hts hin5 hown hK hP ((hR 3 (0)).mpr Nat.zero_lt_one) (by decide +kernel) dX5_advance_105 ?_
      refine lv_bipush (v := 48) hx hb dX5_advance_108 (by decide) ?_
      refine lv_bipush (v := 57) hx hb dX5_advance_110 (by decide) ?_
      refine c_callip (ci := 8) (q := (RX8, TX8, 2)) (κ := 1) (i := 0) (As := [.int ((cA1 x st).1 3 0 7), .int 48, .int 57]) (rest := []) ⟨hx, hb, hml, hown, hts⟩ (ctX8_isWithin l D y ad (cA1 x st) R qs nC nT hR ((cA1 x st).1 3 0 7) 48 57 u st hu hu1 (by simp [cA1, cI_r]) (by omega)) (cwV 3 hts gX5_advance_X8_isWithin rfl rfl rfl (by decide +kernel) ⟨Nat.le_of_ble_eq_true rfl, Nat.le_of_ble_eq_true rfl⟩) ((hR 1 (0)).mpr Nat.zero_lt_one) (fun _ _ _ => ⟨_, rfl⟩) rfl hE hK hP hD hS hA rfl hl.1 rfl (Nat.le_of_ble_eq_true rfl) dX5_advance_112 ⟨Nat.zero_le _, Nat.zero_le _⟩ (fun H locs hP hD hS => ?_)
      refine lv_if_eq (tgt := 156) hx hb dX5_advance_115 (by decide) (fun c_115 => ?_) (fun c_115 => ?_)
      · have b115 : cWi (cA1 x st) u 48 57 st = false := (zI_eq _).mp c_115
        refine lv_aload_n hx hb dX5_advance_156 rfl (lv_at hl 0 rfl) ?_
        refine lv_aload_n hx hb dX5_advance_157 rfl (lv_at hl 0 rfl) ?_
        refine cg_X5_tape (i := 0) hx hb hts hin5 hown hK hP ((hR 3 (0)).mpr Nat.zero_lt_one) (by decide +kernel) dX5_advance_158 ?_
        refine lv_aload_n hx hb dX5_advance_161 rfl (lv_at hl 0 rfl) ?_
        refine cg_X5_start (i := 0) hx hb hts hin5 hown hK hP ((hR 3 (0)).mpr Nat.zero_lt_one) (by decide +kernel) dX5_advance_162 ?_
        refine lv_bipush (v := 59) hx hb dX5_advance_165 (by decide) ?_
        refine lv_bipush (v := 59) hx hb dX5_advance_167 (by decide) ?_
        refine c_callip (ci := 8) (q := (RX8, TX8, 2)) (κ := 1) (i := 0) (As := [.int ((cA1 x st).1 3 0 7), .int 59, .int 59]) (rest := [.ref (ad 3 0)]) ⟨hx, hb, hml, hown, hts⟩ (ctX8_isWithin l D y ad (cA1 x st) R qs nC nT hR ((cA1 x st).1 3 0 7) 59 59 u st hu hu1 (by simp [cA1, cI_r]) (by omega)) (cwV 3 hts gX5_advance_X8_isWithin rfl rfl rfl (by decide +kernel) ⟨Nat.le_of_ble_eq_true rfl, Nat.le_of_ble_eq_true rfl⟩) ((hR 1 (0)).mpr Nat.zero_lt_one) (fun _ _ _ => ⟨_, rfl⟩) rfl hE hK hP hD hS hA rfl hl.1 rfl (Nat.le_of_ble_eq_true rfl) dX5_advance_169 ⟨Nat.zero_le _, Nat.zero_le _⟩ (fun H locs hP hD hS => ?_)
        refine lv_if_eq (tgt := 179) hx hb dX5_advance_172 (by decide) (fun c_172 => ?_) (fun c_172 => ?_)
        · have b172 : cWi (cA1 x st) u 59 59 st = false := (zI_eq _).mp c_172
          refine lv_iconst (v := 4) hx hb dX5_advance_179 (by decide) ?_
          refine cp_X5_token (i := 0) hx hb hts hin5 hown hK hP hD hS ((hR 3 (0)).mpr Nat.zero_lt_one) (by decide +kernel) dX5_advance_180 (fun H locs hP hD hS => ?_)
          exact c_retv hx hb hr hlocks hAe hK hP hD hS dX5_advance_183 (by rw [cAdv, show sI (x.1 3 0 8) = nx from hsn, ← hst, cAdvS, if_neg h36, if_neg (show ¬ cWi x u 97 122 st = true from fun q9 => Bool.noConfusion (b70.symm.trans q9)), if_neg (show ¬ cWi x u 48 57 st = true from fun q9 => Bool.noConfusion (b115.symm.trans q9)), show cWi x u 59 59 st = false from b172]; rfl)
        · have b172 : cWi (cA1 x st) u 59 59 st = true := (zI_ne _).mp c_172
          refine lv_iconst (v := 3) hx hb dX5_advance_175 (by decide) ?_
          refine lv_goto (tgt := 180) hx hb dX5_advance_176 (by decide) ?_
          refine cp_X5_token (i := 0) hx hb hts hin5 hown hK hP hD hS ((hR 3 (0)).mpr Nat.zero_lt_one) (by decide +kernel) dX5_advance_180 (fun H locs hP hD hS => ?_)
          exact c_retv hx hb hr hlocks hAe hK hP hD hS dX5_advance_183 (by rw [cAdv, show sI (x.1 3 0 8) = nx from hsn, ← hst, cAdvS, if_neg h36, if_neg (show ¬ cWi x u 97 122 st = true from fun q9 => Bool.noConfusion (b70.symm.trans q9)), if_neg (show ¬ cWi x u 48 57 st = true from fun q9 => Bool.noConfusion (b115.symm.trans q9)), show cWi x u 59 59 st = true from b172]; rfl)
      · have b115 : cWi (cA1 x st) u 48 57 st = true := (zI_ne _).mp c_115
        have he := eoR_le x 48 57 hu1 (show st < u by omega)
        have he1 := he.1
        refine lv_aload_n hx hb dX5_advance_118 rfl (lv_at hl 0 rfl) ?_
        refine lv_aload_n hx hb dX5_advance_119 rfl (lv_at hl 0 rfl) ?_
        refine cg_X5_tape (i := 0) hx hb hts hin5 hown hK hP ((hR 3 (0)).mpr Nat.zero_lt_one) (by decide +kernel) dX5_advance_120 ?_
        refine lv_aload_n hx hb dX5_advance_123 rfl (lv_at hl 0 rfl) ?_
        refine cg_X5_start (i := 0) hx hb hts hin5 hown hK hP ((hR 3 (0)).mpr Nat.zero_lt_one) (by decide +kernel) dX5_advance_124 ?_
        refine lv_bipush (v := 48) hx hb dX5_advance_127 (by decide) ?_
        refine lv_bipush (v := 57) hx hb dX5_advance_129 (by decide) ?_
        refine c_callip (ci := 8) (q := (RX8, TX8, 2)) (κ := 1) (i := 0) (As := [.int ((cA1 x st).1 3 0 7), .int 48, .int 57]) (rest := [.ref (ad 3 0)]) ⟨hx, hb, hml, hown, hts⟩ (ctX8_endOfRun l D y ad (cA1 x st) R qs nC nT hR ((cA1 x st).1 3 0 7) 48 57 u st hu hu1 (by simp [cA1, cI_r]) (by omega)) (cwV 3 hts gX5_advance_X8_endOfRun rfl rfl rfl (by decide +kernel) ⟨Nat.le_of_ble_eq_true rfl, Nat.le_of_ble_eq_true rfl⟩) ((hR 1 (0)).mpr Nat.zero_lt_one) (fun _ _ _ => ⟨_, rfl⟩) rfl hE hK hP hD hS hA rfl hl.1 rfl (Nat.le_of_ble_eq_true rfl) dX5_advance_131 ⟨Nat.zero_le _, Nat.zero_le _⟩ (fun H locs hP hD hS => ?_)
        refine cp_X5_next (i := 0) hx hb hts hin5 hown hK hP hD hS ((hR 3 (0)).mpr Nat.zero_lt_one) (by decide +kernel) dX5_advance_134 (fun H locs hP hD hS => ?_)
        have hP : va_P D vwCl (cW ad y (cA2 x st (eoR x u 48 57 st)) R) H := hP
        have hD : va_D A (cW ad y (cA2 x st (eoR x u 48 57 st)) R) := hD
        refine lv_aload_n hx hb dX5_advance_137 rfl (lv_at hl 0 rfl) ?_
        refine lv_aload_n hx hb dX5_advance_138 rfl (lv_at hl 0 rfl) ?_
        refine c_calli (ci := 5) (q := (RX5, TX5, 10)) (κ := 3) (i := 0) (As := []) (rest := [.ref (ad 3 0)]) ⟨hx, hb, hml, hown, hts⟩ (ctX5_readDigits l D y ad (cA2 x st (eoR x u 48 57 st)) R qs nC nT hR st (eoR x u 48 57 st) (by simp [cA2, cA1, cI_r]) (by simp [cA2, cI_r]) he1 (by omega)) (cwV 0 hts gX5_advance_X5_readDigits rfl rfl rfl (by decide +kernel) ⟨Nat.le_of_ble_eq_true rfl, Nat.le_of_ble_eq_true rfl⟩) ((hR 3 (0)).mpr Nat.zero_lt_one) (fun _ _ _ => ⟨_, rfl⟩) rfl hE hK hP hD hS hA rfl hl.1 rfl (Nat.le_of_ble_eq_true rfl) dX5_advance_139 ⟨Nat.zero_le _, Nat.zero_le _⟩ (fun r139 x139 H locs h139 hP hD hS => ?_)
        refine lv_if_eq (tgt := 149) hx hb dX5_advance_142 (by decide) (fun c_142 => ?_) (fun c_142 => ?_)
        · refine lv_iconst (v := 4) hx hb dX5_advance_149 (by decide) ?_
          refine cp_X5_token (i := 0) hx hb hts hin5 hown hK hP hD hS ((hR 3 (0)).mpr Nat.zero_lt_one) (by decide +kernel) dX5_advance_150 (fun H locs hP hD hS => ?_)
          refine lv_goto (tgt := 183) hx hb dX5_advance_153 (by decide) ?_
          exact c_retv hx hb hr hlocks hAe hK hP hD hS dX5_advance_183 (by rw [cAdv, show sI (x.1 3 0 8) = nx from hsn, ← hst, cAdvS, if_neg h36, if_neg (show ¬ cWi x u 97 122 st = true from fun q9 => Bool.noConfusion (b70.symm.trans q9)), if_pos (show cWi x u 48 57 st = true from b115), ← h139]; simp [c_142])
        · refine lv_iconst (v := 2) hx hb dX5_advance_145 (by decide) ?_
          refine lv_goto (tgt := 150) hx hb dX5_advance_146 (by decide) ?_
          refine cp_X5_token (i := 0) hx hb hts hin5 hown hK hP hD hS ((hR 3 (0)).mpr Nat.zero_lt_one) (by decide +kernel) dX5_advance_150 (fun H locs hP hD hS => ?_)
          refine lv_goto (tgt := 183) hx hb dX5_advance_153 (by decide) ?_
          exact c_retv hx hb hr hlocks hAe hK hP hD hS dX5_advance_183 (by rw [cAdv, show sI (x.1 3 0 8) = nx from hsn, ← hst, cAdvS, if_neg h36, if_neg (show ¬ cWi x u 97 122 st = true from fun q9 => Bool.noConfusion (b70.symm.trans q9)), if_pos (show cWi x u 48 57 st = true from b115), ← h139]; simp [c_142])
    · have b70 : cWi (cA1 x st) u 97 122 st = true := (zI_ne _).mp c_70
      have he := eoR_le x 97 122 hu1 (show st < u by omega)
      have he1 := he.1
      refine lv_aload_n hx hb dX5_advance_73 rfl (lv_at hl 0 rfl) ?_
      refine lv_aload_n hx hb dX5_advance_74 rfl (lv_at hl 0 rfl) ?_
      refine cg_X5_tape (i := 0) hx hb hts hin5 hown hK hP ((hR 3 (0)).mpr Nat.zero_lt_one) (by decide +kernel) dX5_advance_75 ?_
      refine lv_aload_n hx hb dX5_advance_78 rfl (lv_at hl 0 rfl) ?_
      refine cg_X5_start (i := 0) hx hb hts hin5 hown hK hP ((hR 3 (0)).mpr Nat.zero_lt_one) (by decide +kernel) dX5_advance_79 ?_
      refine lv_bipush (v := 97) hx hb dX5_advance_82 (by decide) ?_
      refine lv_bipush (v := 122) hx hb dX5_advance_84 (by decide) ?_
      refine c_callip (ci := 8) (q := (RX8, TX8, 2)) (κ := 1) (i := 0) (As := [.int ((cA1 x st).1 3 0 7), .int 97, .int 122]) (rest := [.ref (ad 3 0)]) ⟨hx, hb, hml, hown, hts⟩ (ctX8_endOfRun l D y ad (cA1 x st) R qs nC nT hR ((cA1 x st).1 3 0 7) 97 122 u st hu hu1 (by simp [cA1, cI_r]) (by omega)) (cwV 3 hts gX5_advance_X8_endOfRun rfl rfl rfl (by decide +kernel) ⟨Nat.le_of_ble_eq_true rfl, Nat.le_of_ble_eq_true rfl⟩) ((hR 1 (0)).mpr Nat.zero_lt_one) (fun _ _ _ => ⟨_, rfl⟩) rfl hE hK hP hD hS hA rfl hl.1 rfl (Nat.le_of_ble_eq_true rfl) dX5_advance_86 ⟨Nat.zero_le _, Nat.zero_le _⟩ (fun H locs hP hD hS => ?_)
      refine cp_X5_next (i := 0) hx hb hts hin5 hown hK hP hD hS ((hR 3 (0)).mpr Nat.zero_lt_one) (by decide +kernel) dX5_advance_89 (fun H locs hP hD hS => ?_)
      refine lv_aload_n hx hb dX5_advance_92 rfl (lv_at hl 0 rfl) ?_
      refine lv_iconst (v := 1) hx hb dX5_advance_93 (by decide) ?_
      refine cp_X5_token (i := 0) hx hb hts hin5 hown hK hP hD hS ((hR 3 (0)).mpr Nat.zero_lt_one) (by decide +kernel) dX5_advance_94 (fun H locs hP hD hS => ?_)
      refine lv_goto (tgt := 183) hx hb dX5_advance_97 (by decide) ?_
      exact c_retv hx hb hr hlocks hAe hK hP hD hS dX5_advance_183 (by rw [cAdv, show sI (x.1 3 0 8) = nx from hsn, ← hst, cAdvS, if_neg h36, if_pos (show cWi x u 97 122 st = true from b70)]; rfl)
  · have h36 : u ≤ st := by rw [show (cA1 x st).1 1 0 1 = nI u from hu, show (cA1 x st).1 3 0 7 = nI st by simp [cA1, cI_r]] at c_36; exact Nat.not_lt.mp (fun q9 => c_36 ((nI_ltI (by omega) (by omega)).mpr q9))
    refine lv_aload_n hx hb dX5_advance_39 rfl (lv_at hl 0 rfl) ?_
    refine lv_aload_n hx hb dX5_advance_40 rfl (lv_at hl 0 rfl) ?_
    refine cg_X5_start (i := 0) hx hb hts hin5 hown hK hP ((hR 3 (0)).mpr Nat.zero_lt_one) (by decide +kernel) dX5_advance_41 ?_
    refine cp_X5_next (i := 0) hx hb hts hin5 hown hK hP hD hS ((hR 3 (0)).mpr Nat.zero_lt_one) (by decide +kernel) dX5_advance_44 (fun H locs hP hD hS => ?_)
    refine lv_aload_n hx hb dX5_advance_47 rfl (lv_at hl 0 rfl) ?_
    refine lv_iconst (v := 0) hx hb dX5_advance_48 (by decide) ?_
    refine cp_X5_token (i := 0) hx hb hts hin5 hown hK hP hD hS ((hR 3 (0)).mpr Nat.zero_lt_one) (by decide +kernel) dX5_advance_49 (fun H locs hP hD hS => ?_)
    refine lv_goto (tgt := 183) hx hb dX5_advance_52 (by decide) ?_
    exact c_retv hx hb hr hlocks hAe hK hP hD hS dX5_advance_183 (by rw [cAdv, show sI (x.1 3 0 8) = nx from hsn, ← hst, cAdvS, if_pos h36]; simp [cA1, cA2, cI_r])
